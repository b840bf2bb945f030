section
-- ===== PART A: goes FIRST, ahead of the names: the tables' words, and 'selects' of the private methods out of them =====
/-- a private method of a class that the tables say can be made, by its rows of tables_1 -/
def lw_okq (q : MethodName × Nat) : Prop := (q.1.cls ≠ "java/lang/invoke/MethodHandle" ∧ q.1.cls ≠ "java/lang/invoke/VarHandle") ∧ Cond.instantiable q.1.cls q.2 ∈ tables_1 ∧ Cond.privateMethod q.1 ∈ tables_1 ∧ Cond.instanceMethod q.1 ∈ tables_1
theorem lw_p0 : lw_okq (⟨"java/lang/Throwable", "fillInStackTrace", "(I)Ljava/lang/Throwable;"⟩, 6) := ⟨⟨by decide +kernel, by decide +kernel⟩, List.mem_of_getElem? (i := 216) (by decide +kernel), List.mem_of_getElem? (i := 214) (by decide +kernel), List.mem_of_getElem? (i := 215) (by decide +kernel)⟩
theorem lw_p1 : lw_okq (⟨"TrialDesk", "isAnyBlockTaken", "()Z"⟩, 8) := ⟨⟨by decide +kernel, by decide +kernel⟩, List.mem_of_getElem? (i := 20) (by decide +kernel), List.mem_of_getElem? (i := 241) (by decide +kernel), List.mem_of_getElem? (i := 242) (by decide +kernel)⟩
theorem lw_p2 : lw_okq (⟨"TrialDesk", "stratumAt", "(I)LTrialDesk$Stratum;"⟩, 8) := ⟨⟨by decide +kernel, by decide +kernel⟩, List.mem_of_getElem? (i := 20) (by decide +kernel), List.mem_of_getElem? (i := 245) (by decide +kernel), List.mem_of_getElem? (i := 246) (by decide +kernel)⟩
theorem lw_p3 : lw_okq (⟨"TrialDesk", "siteAt", "(I)LTrialDesk$Site;"⟩, 8) := ⟨⟨by decide +kernel, by decide +kernel⟩, List.mem_of_getElem? (i := 20) (by decide +kernel), List.mem_of_getElem? (i := 352) (by decide +kernel), List.mem_of_getElem? (i := 353) (by decide +kernel)⟩
theorem lw_p4 : lw_okq (⟨"TrialDesk", "needArm", "(I)V"⟩, 8) := ⟨⟨by decide +kernel, by decide +kernel⟩, List.mem_of_getElem? (i := 20) (by decide +kernel), List.mem_of_getElem? (i := 356) (by decide +kernel), List.mem_of_getElem? (i := 357) (by decide +kernel)⟩
theorem lw_p5 : lw_okq (⟨"TrialDesk", "needPlan", "()V"⟩, 8) := ⟨⟨by decide +kernel, by decide +kernel⟩, List.mem_of_getElem? (i := 20) (by decide +kernel), List.mem_of_getElem? (i := 364) (by decide +kernel), List.mem_of_getElem? (i := 365) (by decide +kernel)⟩
theorem lw_p6 : lw_okq (⟨"TrialDesk$Shelf", "isFree", "(III)Z"⟩, 4) := ⟨⟨by decide +kernel, by decide +kernel⟩, List.mem_of_getElem? (i := 70) (by decide +kernel), List.mem_of_getElem? (i := 383) (by decide +kernel), List.mem_of_getElem? (i := 384) (by decide +kernel)⟩
theorem lw_p7 : lw_okq (⟨"TrialDesk$Stratum", "armAt", "(I)I"⟩, 9) := ⟨⟨by decide +kernel, by decide +kernel⟩, List.mem_of_getElem? (i := 92) (by decide +kernel), List.mem_of_getElem? (i := 408) (by decide +kernel), List.mem_of_getElem? (i := 409) (by decide +kernel)⟩
theorem lw_p8 : lw_okq (⟨"TrialDesk$Stratum", "build", "()V"⟩, 9) := ⟨⟨by decide +kernel, by decide +kernel⟩, List.mem_of_getElem? (i := 92) (by decide +kernel), List.mem_of_getElem? (i := 416) (by decide +kernel), List.mem_of_getElem? (i := 417) (by decide +kernel)⟩
theorem lw_p9 : lw_okq (⟨"TrialDesk$Stratum", "makeRoom", "(I)V"⟩, 9) := ⟨⟨by decide +kernel, by decide +kernel⟩, List.mem_of_getElem? (i := 92) (by decide +kernel), List.mem_of_getElem? (i := 420) (by decide +kernel), List.mem_of_getElem? (i := 421) (by decide +kernel)⟩
theorem lw_p10 : lw_okq (⟨"TrialDesk$Stratum", "layArms", "(I)V"⟩, 9) := ⟨⟨by decide +kernel, by decide +kernel⟩, List.mem_of_getElem? (i := 92) (by decide +kernel), List.mem_of_getElem? (i := 443) (by decide +kernel), List.mem_of_getElem? (i := 444) (by decide +kernel)⟩
theorem lw_p11 : lw_okq (⟨"TrialDesk$Stratum", "shuffle", "(I)V"⟩, 9) := ⟨⟨by decide +kernel, by decide +kernel⟩, List.mem_of_getElem? (i := 92) (by decide +kernel), List.mem_of_getElem? (i := 455) (by decide +kernel), List.mem_of_getElem? (i := 456) (by decide +kernel)⟩
theorem lw_p12 : lw_okq (⟨"TrialDesk$Stratum", "draw", "(I)I"⟩, 9) := ⟨⟨by decide +kernel, by decide +kernel⟩, List.mem_of_getElem? (i := 92) (by decide +kernel), List.mem_of_getElem? (i := 459) (by decide +kernel), List.mem_of_getElem? (i := 460) (by decide +kernel)⟩
theorem lw_p13 : lw_okq (⟨"TrialDesk$Stratum", "swap", "(II)V"⟩, 9) := ⟨⟨by decide +kernel, by decide +kernel⟩, List.mem_of_getElem? (i := 92) (by decide +kernel), List.mem_of_getElem? (i := 465) (by decide +kernel), List.mem_of_getElem? (i := 466) (by decide +kernel)⟩
theorem lw_p14 : lw_okq (⟨"TrialDesk", "pickKits", "(ILTrialDesk$Stratum;)Z"⟩, 8) := ⟨⟨by decide +kernel, by decide +kernel⟩, List.mem_of_getElem? (i := 20) (by decide +kernel), List.mem_of_getElem? (i := 507) (by decide +kernel), List.mem_of_getElem? (i := 508) (by decide +kernel)⟩
theorem lw_p15 : lw_okq (⟨"TrialDeskModel", "refused", "(ZZZ)Z"⟩, 28) := ⟨⟨by decide +kernel, by decide +kernel⟩, List.mem_of_getElem? (i := 695) (by decide +kernel), List.mem_of_getElem? (i := 800) (by decide +kernel), List.mem_of_getElem? (i := 801) (by decide +kernel)⟩
def lw_privs_1 : List (MethodName × Nat) := [(⟨"java/lang/Throwable", "fillInStackTrace", "(I)Ljava/lang/Throwable;"⟩, 6), (⟨"TrialDesk", "isAnyBlockTaken", "()Z"⟩, 8), (⟨"TrialDesk", "stratumAt", "(I)LTrialDesk$Stratum;"⟩, 8), (⟨"TrialDesk", "siteAt", "(I)LTrialDesk$Site;"⟩, 8), (⟨"TrialDesk", "needArm", "(I)V"⟩, 8), (⟨"TrialDesk", "needPlan", "()V"⟩, 8), (⟨"TrialDesk$Shelf", "isFree", "(III)Z"⟩, 4), (⟨"TrialDesk$Stratum", "armAt", "(I)I"⟩, 9), (⟨"TrialDesk$Stratum", "build", "()V"⟩, 9), (⟨"TrialDesk$Stratum", "makeRoom", "(I)V"⟩, 9), (⟨"TrialDesk$Stratum", "layArms", "(I)V"⟩, 9), (⟨"TrialDesk$Stratum", "shuffle", "(I)V"⟩, 9), (⟨"TrialDesk$Stratum", "draw", "(I)I"⟩, 9), (⟨"TrialDesk$Stratum", "swap", "(II)V"⟩, 9), (⟨"TrialDesk", "pickKits", "(ILTrialDesk$Stratum;)Z"⟩, 8), (⟨"TrialDeskModel", "refused", "(ZZZ)Z"⟩, 28)]
theorem lw_r1 : ∀ q ∈ lw_privs_1, lw_okq q := List.forall_mem_cons.mpr ⟨lw_p0, List.forall_mem_cons.mpr ⟨lw_p1, List.forall_mem_cons.mpr ⟨lw_p2, List.forall_mem_cons.mpr ⟨lw_p3, List.forall_mem_cons.mpr ⟨lw_p4, List.forall_mem_cons.mpr ⟨lw_p5, List.forall_mem_cons.mpr ⟨lw_p6, List.forall_mem_cons.mpr ⟨lw_p7, List.forall_mem_cons.mpr ⟨lw_p8, List.forall_mem_cons.mpr ⟨lw_p9, List.forall_mem_cons.mpr ⟨lw_p10, List.forall_mem_cons.mpr ⟨lw_p11, List.forall_mem_cons.mpr ⟨lw_p12, List.forall_mem_cons.mpr ⟨lw_p13, List.forall_mem_cons.mpr ⟨lw_p14, List.forall_mem_cons.mpr ⟨lw_p15, fun _ h => absurd h List.not_mem_nil⟩⟩⟩⟩⟩⟩⟩⟩⟩⟩⟩⟩⟩⟩⟩⟩
theorem lw_p16 : lw_okq (⟨"TrialDeskModel", "writes", "()Z"⟩, 28) := ⟨⟨by decide +kernel, by decide +kernel⟩, List.mem_of_getElem? (i := 695) (by decide +kernel), List.mem_of_getElem? (i := 804) (by decide +kernel), List.mem_of_getElem? (i := 805) (by decide +kernel)⟩
theorem lw_p17 : lw_okq (⟨"TrialDeskModel", "isSite", "(I)Z"⟩, 28) := ⟨⟨by decide +kernel, by decide +kernel⟩, List.mem_of_getElem? (i := 695) (by decide +kernel), List.mem_of_getElem? (i := 817) (by decide +kernel), List.mem_of_getElem? (i := 818) (by decide +kernel)⟩
theorem lw_p18 : lw_okq (⟨"TrialDeskModel", "isArm", "(I)Z"⟩, 28) := ⟨⟨by decide +kernel, by decide +kernel⟩, List.mem_of_getElem? (i := 695) (by decide +kernel), List.mem_of_getElem? (i := 821) (by decide +kernel), List.mem_of_getElem? (i := 822) (by decide +kernel)⟩
theorem lw_p19 : lw_okq (⟨"TrialDeskModel", "free", "(II)I"⟩, 28) := ⟨⟨by decide +kernel, by decide +kernel⟩, List.mem_of_getElem? (i := 695) (by decide +kernel), List.mem_of_getElem? (i := 826) (by decide +kernel), List.mem_of_getElem? (i := 827) (by decide +kernel)⟩
theorem lw_p20 : lw_okq (⟨"TrialDeskModel", "isPerson", "(II)Z"⟩, 28) := ⟨⟨by decide +kernel, by decide +kernel⟩, List.mem_of_getElem? (i := 695) (by decide +kernel), List.mem_of_getElem? (i := 834) (by decide +kernel), List.mem_of_getElem? (i := 835) (by decide +kernel)⟩
theorem lw_p21 : lw_okq (⟨"TrialDeskModel", "nextArm", "(I)I"⟩, 28) := ⟨⟨by decide +kernel, by decide +kernel⟩, List.mem_of_getElem? (i := 695) (by decide +kernel), List.mem_of_getElem? (i := 841) (by decide +kernel), List.mem_of_getElem? (i := 842) (by decide +kernel)⟩
theorem lw_p22 : lw_okq (⟨"TrialDeskModel", "takeBlock", "(I)I"⟩, 28) := ⟨⟨by decide +kernel, by decide +kernel⟩, List.mem_of_getElem? (i := 695) (by decide +kernel), List.mem_of_getElem? (i := 845) (by decide +kernel), List.mem_of_getElem? (i := 846) (by decide +kernel)⟩
theorem lw_p23 : lw_okq (⟨"TrialDeskModel", "draw", "(II)I"⟩, 28) := ⟨⟨by decide +kernel, by decide +kernel⟩, List.mem_of_getElem? (i := 695) (by decide +kernel), List.mem_of_getElem? (i := 849) (by decide +kernel), List.mem_of_getElem? (i := 850) (by decide +kernel)⟩
theorem lw_p24 : lw_okq (⟨"TrialDeskModel", "leastFree", "(II)I"⟩, 28) := ⟨⟨by decide +kernel, by decide +kernel⟩, List.mem_of_getElem? (i := 695) (by decide +kernel), List.mem_of_getElem? (i := 854) (by decide +kernel), List.mem_of_getElem? (i := 855) (by decide +kernel)⟩
theorem lw_p25 : lw_okq (⟨"TrialDeskModel", "give", "(IIIIIZ)V"⟩, 28) := ⟨⟨by decide +kernel, by decide +kernel⟩, List.mem_of_getElem? (i := 695) (by decide +kernel), List.mem_of_getElem? (i := 858) (by decide +kernel), List.mem_of_getElem? (i := 859) (by decide +kernel)⟩
theorem lw_p26 : lw_okq (⟨"TrialDeskModel", "keysOf", "(I)I"⟩, 28) := ⟨⟨by decide +kernel, by decide +kernel⟩, List.mem_of_getElem? (i := 695) (by decide +kernel), List.mem_of_getElem? (i := 885) (by decide +kernel), List.mem_of_getElem? (i := 886) (by decide +kernel)⟩
theorem lw_p27 : lw_okq (⟨"TrialDeskModel", "known", "(II)I"⟩, 28) := ⟨⟨by decide +kernel, by decide +kernel⟩, List.mem_of_getElem? (i := 695) (by decide +kernel), List.mem_of_getElem? (i := 901) (by decide +kernel), List.mem_of_getElem? (i := 902) (by decide +kernel)⟩
def lw_privs_2 : List (MethodName × Nat) := [(⟨"TrialDeskModel", "writes", "()Z"⟩, 28), (⟨"TrialDeskModel", "isSite", "(I)Z"⟩, 28), (⟨"TrialDeskModel", "isArm", "(I)Z"⟩, 28), (⟨"TrialDeskModel", "free", "(II)I"⟩, 28), (⟨"TrialDeskModel", "isPerson", "(II)Z"⟩, 28), (⟨"TrialDeskModel", "nextArm", "(I)I"⟩, 28), (⟨"TrialDeskModel", "takeBlock", "(I)I"⟩, 28), (⟨"TrialDeskModel", "draw", "(II)I"⟩, 28), (⟨"TrialDeskModel", "leastFree", "(II)I"⟩, 28), (⟨"TrialDeskModel", "give", "(IIIIIZ)V"⟩, 28), (⟨"TrialDeskModel", "keysOf", "(I)I"⟩, 28), (⟨"TrialDeskModel", "known", "(II)I"⟩, 28)]
theorem lw_r2 : ∀ q ∈ lw_privs_2, lw_okq q := List.forall_mem_cons.mpr ⟨lw_p16, List.forall_mem_cons.mpr ⟨lw_p17, List.forall_mem_cons.mpr ⟨lw_p18, List.forall_mem_cons.mpr ⟨lw_p19, List.forall_mem_cons.mpr ⟨lw_p20, List.forall_mem_cons.mpr ⟨lw_p21, List.forall_mem_cons.mpr ⟨lw_p22, List.forall_mem_cons.mpr ⟨lw_p23, List.forall_mem_cons.mpr ⟨lw_p24, List.forall_mem_cons.mpr ⟨lw_p25, List.forall_mem_cons.mpr ⟨lw_p26, List.forall_mem_cons.mpr ⟨lw_p27, fun _ h => absurd h List.not_mem_nil⟩⟩⟩⟩⟩⟩⟩⟩⟩⟩⟩⟩
def lw_privs : List (MethodName × Nat) := lw_privs_1 ++ (lw_privs_2)
def lw_tbl : List Cond := k2_sels lw_privs ++ tables_1
theorem lw_privs_ok : ∀ q ∈ lw_privs, lw_okq q := by
  show ∀ q ∈ lw_privs_1 ++ (lw_privs_2), lw_okq q
  exact List.forall_mem_append.mpr ⟨lw_r1, lw_r2⟩
end
section
/-! out of claim/NAMES.whole.lean.txt (a starting text): exceptions that leave a method, and their catching; 'open Bundle' is spelled out, for the hand-in takes no such word -/
section VXA
variable {p : Program} {l : Launch} {e : Env} {R : Room} {s : State} {m : MethodId} {args : Array Value} {below : List Frame} {meth : Method} {c : Code} {H : Heap} {locs : List Loc} {cells slots : Nat} {Q : State → Prop}
variable {mc ms : Nat} {free : Addr → Prop} {A0 A1 : Nat → Prop} {H0 : Heap} {a : Array Value} {ls : Array Slot} {st0 rest : List Value} {pc : Nat}
variable {Qc : Array Value → State → Outcome → State → Prop} {XC : String → State → State → Prop}
def vx_T (XC : String → State → State → Prop) (st : State) (q : Addr) (t : State) (mc ms : Nat) (free : Addr → Prop) : Prop :=
  ∃ (E : String) (ce : Cell) (L : List Loc), XC E st t ∧ t.heap[q]? = some ce ∧ ce.vm = .none ∧ st.vm.findClass E = some ce.cls ∧ st.WarmedH t.vm ∧ st.sameButNew ({ t with vm := st.vm } : State) L mc ms ∧ ∀ z ∈ L, free z.base
def vx_Q (Qc : Array Value → State → Outcome → State → Prop) (XC : String → State → State → Prop) (mc ms : Nat) (free : Addr → Prop) : Array Value → State → Outcome → State → Prop := fun a st o t =>
  (Qc a st o t ∧ ∃ L, FrameEnd st o t L mc ms ∧ ∀ q ∈ L, free q.base) ∨ ∃ q, o = .threw q ∧ vx_T XC st q t mc ms free
def vx_W (p : Program) (l : Launch) (e : Env) (R : Room) (s : State) (m : MethodId) (args : Array Value) (below : List Frame) (meth : Method) (c : Code) (H : Heap) (locs : List Loc) (cells slots : Nat) (Q : State → Prop) (g : JFrame) (q : Addr) : Prop :=
  ∀ T : State, T.heap = H → Stand p l e R s m args below meth c T locs cells slots → ∃ t, Steps p.tables e below ((T.setTop g).pushFrame (.throwing q)) t ∧ Q t
theorem vx_catch {own name : String} {E : String} {ce : Cell} {q : Addr} (hown : s.vm.findClass own = some m.cls) (pre : List ExceptionTableEntry) (x : ExceptionTableEntry) (suf : List ExceptionTableEntry) (hsplit : c.exceptionTable.toList = pre ++ x :: suf)
    (hpass : ∀ z ∈ pre, covers z pc = false ∨ (z.catchType ≠ 0 ∧ ∃ nm : String, (Cond.classLink own z.catchType nm).before args s = true ∧ va_Nc E nm s)) (hx : covers x pc = true) (h0 : x.catchType ≠ 0)
    (hlink : (Cond.classLink own x.catchType name).before args s = true) (hcast : (Cond.castable E name).before args s = true) (hcell : H[q]? = some ce) (hv : ce.vm = .none) (hcl : s.vm.findClass E = some ce.cls)
    (kk : W p l e R s m args below meth c H locs cells slots Q (F0 m x.handlerPc ls [.ref q])) : vx_W p l e R s m args below meth c H locs cells slots Q (F0 m pc ls rest) q := by
  intro T hT X
  have hpl : e.platform.magicAccessors = ({} : Platform).magicAccessors := by rw [X.admits.platform]
  obtain ⟨c3, c4, hc3, hc4, hasg⟩ := Cond.castable_spec hcast
  cases Option.some.inj (hc3.symm.trans hcl)
  obtain ⟨c5, hc5, hcl5⟩ := Cond.classLink_spec hown hlink e.platform hpl
  cases Option.some.inj (hc4.symm.trans hc5)
  obtain ⟨vm', X', st⟩ := X.thenCaughtThrough q (g := F0 m pc ls rest) rfl (Steps.refl _) (by rw [hT]; exact hcell) (by rw [hv]; rfl) (by obtain ⟨k9, h9, -⟩ := Vm.findClass_spec hcl; exact ⟨k9, h9⟩) pre x suf hsplit
    (fun z hz => by
      rcases hpass z hz with h | ⟨hz0, nm, hl1, hn1⟩
      · exact Or.inl h
      · obtain ⟨c6, hc6, hcl6⟩ := Cond.classLink_spec hown hl1 e.platform hpl
        obtain ⟨a8, b8, h1, h2, h3⟩ := hn1
        cases Option.some.inj (h1.symm.trans hcl)
        cases Option.some.inj (h2.symm.trans hc6)
        exact Or.inr ⟨hz0, _, hcl6, h3⟩) hx (Or.inr ⟨h0, c4, hcl5, hasg⟩)
  obtain ⟨t, a1, b1⟩ := kk (T.setVm vm') hT X'
  exact ⟨t, st.trans a1, b1⟩
def vx_MQ (below : List Frame) (Qc : Array Value → State → Outcome → State → Prop) (XC : String → State → State → Prop) (a : Array Value) (s : State) (mc ms : Nat) (free : Addr → Prop) : State → Prop := fun t =>
  ∃ o, t.status = .running ∧ Ended t below o ∧ vx_Q Qc XC mc ms free a s o t
theorem vx_frame {U : State} {k n : Nat} (h : s.sameButNew ({ U with vm := s.vm } : State) locs k n) : s.heap.size ≤ U.heap.size ∧ ∀ q : Nat, q < s.heap.size → (∀ z ∈ locs, z.base ≠ q) → U.heap[q]? = s.heap[q]? := by
  obtain ⟨-, h2, -, -, -, h6⟩ := h
  refine ⟨h2, fun q hq hz => ?_⟩
  obtain ⟨c9, e1, e2, e3, e4⟩ := h6 q _ (Array.getElem?_eq_getElem hq)
  have hs : c9.slots = (s.heap[q]).slots := Array.ext_getElem? fun i => e4 i fun hm => hz _ hm rfl
  have h9 : c9 = s.heap[q] := by
    rw [hs] at e2
    exact e2
  have e5 : U.heap[q]? = some c9 := e1
  rw [e5, h9, Array.getElem?_eq_getElem hq]
def vx_no (w : Cond) : Bool := decide (w ≠ .isRef (.static Bundle.tN "UNASSIGNED_STACK" Bundle.steD)) && decide (w ≠ .isRef (.static Bundle.tN "SUPPRESSED_SENTINEL" Bundle.listD)) && decide (w ≠ .laysStatic Bundle.tN "UNASSIGNED_STACK" Bundle.steD) && decide (w ≠ .laysStatic Bundle.tN "SUPPRESSED_SENTINEL" Bundle.listD)
def vx_at0 (own : String) (ic : Nat) (X : String) (names : List String) : List Cond := (Bundle.ownAtoms0 own ic X names).filter vx_no
def vx_ot (w : Cond) : Bool := w.onTables || goodWord w
theorem vx_ot_at {args a' : Array Value} {s U : State} {w : Cond} (hW : s.WarmedH U.vm) (hvm : s.vm = U.vm) (hg : vx_ot w = true) (h : w.before args s = true) : w.before a' U = true := by
  simp only [vx_ot, Bool.or_eq_true] at hg
  rcases hg with hg | hg
  · exact va_tabs hg hvm h
  · exact word_at hW (good_of_word hg) h
theorem vx_own {args : Array Value} {s : State} {L : List Cond} (h1 : ∀ w ∈ L.filter vx_no, w.before args s = true)
    (hU : (Cond.isRef (.static Bundle.tN "UNASSIGNED_STACK" Bundle.steD)).before args s = true) (hN : (Cond.isRef (.static Bundle.tN "SUPPRESSED_SENTINEL" Bundle.listD)).before args s = true)
    (lU : (Cond.laysStatic Bundle.tN "UNASSIGNED_STACK" Bundle.steD).before args s = true) (lN : (Cond.laysStatic Bundle.tN "SUPPRESSED_SENTINEL" Bundle.listD).before args s = true) : ∀ w ∈ L, w.before args s = true := by
  intro w hw
  by_cases e1 : w = .isRef (.static Bundle.tN "UNASSIGNED_STACK" Bundle.steD)
  · rw [e1]; exact hU
  · by_cases e2 : w = .isRef (.static Bundle.tN "SUPPRESSED_SENTINEL" Bundle.listD)
    · rw [e2]; exact hN
    · by_cases e3 : w = .laysStatic Bundle.tN "UNASSIGNED_STACK" Bundle.steD
      · rw [e3]; exact lU
      · by_cases e4 : w = .laysStatic Bundle.tN "SUPPRESSED_SENTINEL" Bundle.listD
        · rw [e4]; exact lN
        · exact h1 w (List.mem_filter.mpr ⟨hw, by unfold vx_no; rw [decide_eq_true e1, decide_eq_true e2, decide_eq_true e3, decide_eq_true e4]; rfl⟩)
def vx_L (C n d : String) (A : Nat → Prop) (U : State) (H : Heap) : Prop := ∃ (c : ClassId) (k : Class) (i : Nat) (f : Field) (a : Nat) (cell : Cell), U.vm.findClass C = some c ∧ U.fieldFound? C n d = some (c, k, i, f) ∧ f.isStatic = true ∧ k.statics = some a ∧ H[a]? = some cell ∧ cell.vm.isStatics = true ∧ cell.cls = c ∧ f.slot < cell.slots.size ∧ k.staticTypes[f.slot]? = some f.type ∧ ¬ A a
theorem vx_L.moved {C n d : String} {A : Nat → Prop} {u U : State} {H : Heap} (hvm : u.vm.Alike U.vm) (h : vx_L C n d A u H) : vx_L C n d A U H := by
  obtain ⟨c, k, i, f, a, cell, h1, h2, h3, h4, h5, h6, h7, h8, h9, h10⟩ := h
  obtain ⟨k', hi', he⟩ := State.fieldFound?_setVm hvm h2
  exact ⟨c, k', i, f, a, cell, by rw [hvm.findClass]; exact h1, hi', h3, by rw [he]; exact h4, h5, h6, h7, h8, by rw [he]; exact h9, h10⟩
theorem vx_L.kept {C n d : String} {A : Nat → Prop} {U : State} {H H1 : Heap} (h : vx_L C n d A U H) (hq : ∀ a : Nat, a < H.size → ¬ A a → H1[a]? = H[a]?) : vx_L C n d A U H1 := by
  obtain ⟨c, k, i, f, a, cell, h1, h2, h3, h4, h5, h6, h7, h8, h9, h10⟩ := h
  exact ⟨c, k, i, f, a, cell, h1, h2, h3, h4, by rw [hq a (Array.getElem?_eq_some_iff.mp h5).1 h10]; exact h5, h6, h7, h8, h9, h10⟩
theorem vx_L.narrow {C n d : String} {A B : Nat → Prop} {U : State} {H : Heap} (h : vx_L C n d A U H) (hAB : ∀ q, B q → A q) : vx_L C n d B U H := by
  obtain ⟨c, k, i, f, a, cell, h1, h2, h3, h4, h5, h6, h7, h8, h9, h10⟩ := h
  exact ⟨c, k, i, f, a, cell, h1, h2, h3, h4, h5, h6, h7, h8, h9, fun z => h10 (hAB _ z)⟩
theorem vx_L.word {C n d : String} {A : Nat → Prop} {s : State} {args : Array Value} (h : vx_L C n d A s s.heap) : (Cond.laysStatic C n d).before args s = true := by
  obtain ⟨c, k, i, f, a, cell, h1, h2, h3, h4, h5, h6, h7, h8, h9, -⟩ := h
  show (Cond.laysStatic C n d).holds args s none s [] = true
  exact Cond.laysStatic_of h1 h2 h3 h4 h5 h6 h7 h8 h9
def vx_Zq (C n d : String) (A : Nat → Prop) (U : State) (H : Heap) : Prop := va_Zq C n d A U H ∧ vx_L C n d A U H
theorem vx_Zq.moved {C n d : String} {A : Nat → Prop} {u U : State} {H : Heap} (hvm : u.vm.Alike U.vm) (h : vx_Zq C n d A u H) : vx_Zq C n d A U H := ⟨va_Zq.moved hvm h.1, vx_L.moved hvm h.2⟩
theorem vx_Zq.kept {C n d : String} {A : Nat → Prop} {U : State} {H H1 : Heap} (h : vx_Zq C n d A U H) (hq : ∀ a : Nat, a < H.size → ¬ A a → H1[a]? = H[a]?) : vx_Zq C n d A U H1 := ⟨va_Zq.kept h.1 hq, vx_L.kept h.2 hq⟩
theorem vx_Zq.narrow {C n d : String} {A B : Nat → Prop} {U : State} {H : Heap} (h : vx_Zq C n d A U H) (hAB : ∀ q, B q → A q) : vx_Zq C n d B U H := ⟨va_Zq.narrow h.1 hAB, vx_L.narrow h.2 hAB⟩
theorem vx_Zqof {args : Array Value} {s : State} {C n d : String} {A : Nat → Prop} (hl : (Cond.laysStatic C n d).before args s = true) (hini : (Cond.initialized C).before args s = true) (h : (Cond.isRef (.static C n d)).before args s = true) (hA : ∀ a : Nat, a < s.heap.size → ¬ A a) : vx_Zq C n d A s s.heap := by
  refine ⟨va_Zqof hl hini h hA, ?_⟩
  obtain ⟨c, k, i, f, a, cell, h1, h2, h3, h4, h5, h6, h7, h8, h9⟩ := Cond.laysStatic_spec hl
  exact ⟨c, k, i, f, a, cell, h1, h2, h3, h4, h5, h6, h7, h8, h9, hA a (Array.getElem?_eq_some_iff.mp h5).1⟩
theorem vx_isRef {C n d : String} {v : Value} {A : Nat → Prop} {s : State} {args : Array Value} (h : va_Z C n d v A s s.heap) (hv : v.isRef = true) : (Cond.isRef (.static C n d)).before args s = true := by
  obtain ⟨cf, kf, fi, f, a, cell, h1, h2, h3, h4, h5, h6, h7, -⟩ := h
  have he : (Term.static C n d).eval args s none [] s = some v := by
    simp [Term.eval, State.fieldNamed?, h1, h2, h4, h5, h6, h7]
  simp only [Cond.before, Cond.holds, Cond.value, he]
  cases v <;> simp_all [Value.isRef]
theorem vx_isRefq {C n d : String} {A : Nat → Prop} {s : State} {args : Array Value} (h : va_Zq C n d A s s.heap) : (Cond.isRef (.static C n d)).before args s = true := by
  rcases h with h | ⟨t, h⟩
  · exact vx_isRef h rfl
  · exact vx_isRef h rfl
theorem vx_rebase {T : State} (X : Stand p l e R s m args below meth c T locs cells slots) {R' : Room} (hf : R'.frames ≤ R.frames) (hl : R'.locals ≤ R.locals) (hc : cells + R'.cells ≤ R.cells) (hs : slots + R'.slots ≤ R.slots) :
    Stand p l e R' ((T.setVm s.vm).setFrames (.invoking m args :: below)) m args below meth c T [] 0 0 := by
  have htop : (T.setVm s.vm).topJava?.isSome := X.here.top
  have hF : ((T.setVm s.vm).setFrames (.invoking m args :: below)).frames = .invoking m args :: below := State.frames_setFrames _ (State.cur_lt_of_top htop)
  obtain ⟨g₀, hg0⟩ := Option.isSome_iff_exists.mp htop
  obtain ⟨r, hr⟩ := State.topJava?_eq_some.mp hg0
  have hl9 : e.platform.stackLimits (T.setVm s.vm).me = e.platform.stackLimits s.me := X.limits
  have hb9 : (T.setVm s.vm).me.stackBytes = s.me.stackBytes := X.bytes
  refine ⟨X.admits, X.cas, X.clock, hF, ?_, X.hears, X.method, X.code, X.here, X.tail, X.warmed, ?_, ?_, ?_⟩
  · have h := X.room
    have hU : ((T.setVm s.vm).setFrames (.invoking m args :: below)).localsInUse = s.localsInUse := by
      rw [State.localsInUse_invoking hF (meth := meth) (c := c) X.method X.code, State.localsInUse_invoking X.frames X.method X.code]
    simp only [State.hasRoom, Bool.and_eq_true, decide_eq_true_eq] at h ⊢
    obtain ⟨⟨⟨⟨h1, h2, h3, h4, h5, h6⟩, h7⟩, h8⟩, h9⟩ := h
    rw [X.frames, List.length_cons] at h2 h3
    have q1 := X.heapSize
    have q2 := X.used
    simp only [hF, hU, List.length_cons, State.stackLimits_setFrames, State.stackBytes_setFrames, hl9, hb9]
    refine ⟨⟨⟨⟨by omega, by omega, by omega, by omega, by omega, h6⟩, ?_⟩, ?_⟩, X.book⟩
    · show T.heap.size + R'.cells ≤ e.platform.maxCells
      omega
    · show T.slotsUsed + R'.slots ≤ e.platform.maxSlots
      omega
  · rw [State.stackLimits_setFrames]; rfl
  · rw [State.stackBytes_setFrames]; rfl
  · refine ⟨?_, Nat.le_refl _, Nat.le_refl _, ?_, ?_, fun a c9 h9 => ⟨c9, h9, rfl, rfl, fun _ _ => rfl⟩⟩
    · obtain ⟨t, ht, -⟩ := State.frames_cons hr
      show T.setVm s.vm = { ((T.setVm s.vm).setFrames (.invoking m args :: below)).setFrames (T.setVm s.vm).frames with heap := T.heap, slotsUsed := T.slotsUsed }
      rw [State.setFrames_setFrames, State.setFrames_self ht]
      rfl
    · show T.slotsUsed = T.slotsUsed + ((T.heap.toList.drop T.heap.size).map (·.slots.size)).sum
      rw [List.drop_eq_nil_of_le (Nat.le_of_eq Array.length_toList)]
      rfl
    · show ((T.heap.toList.drop T.heap.size).map (·.slots.size)).sum ≤ 0
      rw [List.drop_eq_nil_of_le (Nat.le_of_eq Array.length_toList)]
      exact Nat.le_refl _
theorem vx_throw0 {cc : ByteArray} {pc : Nat} (hexec : p.tables.exec = Jvm.exec) (hb : c.code = cc) (hl : l.stackTraces = false) {own cls : String} {names : List String} {ik ic mc ms : Nat} {A : Nat → Prop}
    (hown : s.vm.findClass own = some m.cls) (hcls : Bundle.fit cls = true) (hnames : ∀ n ∈ names, Bundle.fit n = true)
    (hk : (Cond.classLink own ik cls).before args s = true) (hini : (Cond.initialized cls).before args s = true) (hat : ∀ w ∈ vx_at0 own ic cls names, w.before args s = true)
    (hgood : ∀ w ∈ Cond.classLink own ik cls :: Cond.initialized cls :: vx_at0 own ic cls names, vx_ot w = true)
    (hU : vx_Zq Bundle.tN "UNASSIGNED_STACK" Bundle.steD A s s.heap) (hN : vx_Zq Bundle.tN "SUPPRESSED_SENTINEL" Bundle.listD A s s.heap) (hS : va_S A s.heap H locs) (hsize : ls.size = c.maxLocals)
    (d0 : decode cc pc = .ok (.new ik, 3)) (d3 : decode cc (pc + 3) = .ok (.dup, 1)) (d4 : decode cc (pc + 4) = .ok (.invokespecial ic, 3)) (d7 : decode cc (pc + 7) = .ok (.athrow, 1))
    (hout : ∀ x ∈ c.exceptionTable.toList, covers x (pc + 7) = false)
    (hRframes : names.length + 3 < R.frames) (hRlocals : (rest.map fun v => v.category).sum + (13 * (names.length + 1) + 42) ≤ R.locals) (hRcells : cells + 1 ≤ R.cells) (hRslots : slots + 6 ≤ R.slots) (hlocks : meth.locks = false)
    (hx : ∀ t : State, s.vm.Alike t.vm → H.size ≤ t.heap.size → (∀ q : Nat, q < H.size → t.heap[q]? = H[q]?) → XC cls s t)
    (hf : ∀ z ∈ locs, free z.base) (hc : cells + 1 ≤ mc) (hs : slots + 6 ≤ ms) :
    W p l e R s m args below meth c H locs cells slots (vx_MQ below Qc XC args s mc ms free) (F0 m pc ls rest) := by
  intro T hT X
  have htr : e.platform.stackTraces = false := (show e.platform.stackTraces = l.stackTraces by rw [X.admits.platform]).trans hl
  have Y := vx_rebase X (R' := { frames := R.frames, locals := R.locals, cells := 1, slots := 6 }) (Nat.le_refl _) (Nat.le_refl _) hRcells hRslots
  obtain ⟨s', hA⟩ : ∃ z, z = (T.setVm s.vm).setFrames (.invoking m args :: below) := ⟨_, rfl⟩
  rw [← hA] at Y
  have hvm : s'.vm = s.vm := by rw [hA]; rfl
  have hhp : s'.heap = H := by rw [hA]; exact hT
  have hW0 : s.WarmedH s'.vm := by rw [hvm]; exact State.WarmedH.refl s
  have hat' : ∀ w ∈ vx_at0 own ic cls names, w.before args s' = true := fun w hw => vx_ot_at hW0 hvm.symm (hgood w (List.mem_cons_of_mem _ (List.mem_cons_of_mem _ hw))) (hat w hw)
  have hk' : (Cond.classLink own ik cls).before args s' = true := vx_ot_at hW0 hvm.symm (hgood _ List.mem_cons_self) hk
  have hini' : (Cond.initialized cls).before args s' = true := vx_ot_at hW0 hvm.symm (hgood _ (List.mem_cons_of_mem _ List.mem_cons_self)) hini
  have hU' : vx_Zq Bundle.tN "UNASSIGNED_STACK" Bundle.steD A s' s'.heap := by rw [hhp]; exact vx_Zq.moved hW0.alike (hU.kept hS.2.1)
  have hN' : vx_Zq Bundle.tN "SUPPRESSED_SENTINEL" Bundle.listD A s' s'.heap := by rw [hhp]; exact vx_Zq.moved hW0.alike (hN.kept hS.2.1)
  have h : ∀ w ∈ Bundle.ownAtoms0 own ic cls names, w.before args s' = true := vx_own hat' (vx_isRefq hU'.1) (vx_isRefq hN'.1) hU'.2.word hN'.2.word
  have hown' : s'.vm.findClass own = some m.cls := by rw [hvm]; exact hown
  have hins : (Cond.instantiable cls 6).before args s' = true := h _ (by simp [Bundle.ownAtoms0])
  obtain ⟨vm₁, cX, kX, hfX, hkX, -, -, X₁, st1⟩ := Y.newCold hexec (own := own) (C := cls) (index := ik) (n := 6) hown' hk' hins hini'
    (g := F0 m pc ls rest) rfl (by rw [hb]; exact d0) (Nat.le_refl _) (Nat.le_refl _)
  generalize hT1 : (T.setVm vm₁).pushCell { cls := cX, slots := kX.instanceTypes.map defaultValue, vm := .none } = T1 at X₁ st1
  have hcat : (Value.ref T.heap.size).category = 1 := rfl
  have hcellA : T1.heap[T.heap.size]? = some (freshCell cX kX) := by rw [← hT1]; exact State.heap_pushCell_size _ _
  have d3' : decode c.code (pc + 3) = .ok (.dup, 1) := by rw [hb]; exact d3
  obtain ⟨U, hsteps, hrun, hend, hW, hsame, ce, hce, hO⟩ := X₁.ctorThrow0 hexec htr (own := own) (cls := cls) (names := names) (ic := ic) hown' hcls hnames h (fun x hx => nomatch hx) hfX hkX hcellA (by rw [hhp, hT]; exact Nat.le_refl _)
    (g := { method := m, pc := pc + 4, locals := ls, stack := .ref T.heap.size :: .ref T.heap.size :: rest, locked := none }) rfl hsize rfl rfl (rest := rest) rfl
    (by rw [hb]; exact d4) (by rw [hb]; exact d7) hout hRframes (by simp only [List.map_cons, List.sum_cons, hcat]; omega) hlocks
  obtain ⟨f1, f2⟩ := vx_frame hsame
  rw [hhp] at f1 f2
  have hWs : s.WarmedH U.vm := State.WarmedH.trans hW0 hW
  have hcl : s.vm.findClass cls = some ce.cls := by
    have h9 := hO.cls
    rw [hvm] at h9
    exact h9
  have hall : s.sameButNew ({ U with vm := s.vm } : State) locs mc ms := by
    subst hA
    obtain ⟨e1, e2⟩ := hsame
    rw [State.setFrames_setFrames] at e1
    have h2 : (T.setVm s.vm).sameButNew ({ U with vm := s.vm } : State) [] (0 + 1) (0 + 6) := ⟨e1, e2⟩
    have h3 := X.same.trans h2
    rw [List.append_nil] at h3
    exact h3.mono hc hs
  refine ⟨U, ?_, .threw T.heap.size, hrun, hend, Or.inr ⟨T.heap.size, rfl, cls, ce, locs, hx U hWs.alike f1 (fun q hq => f2 q hq (fun z hz => nomatch hz)), hce, hO.vm, hcl, hWs, hall, hf⟩⟩
  refine st1 _ ?_
  show Steps p.tables e below (T1.setTop { method := m, pc := pc + 3, locals := ls, stack := .ref T.heap.size :: rest, locked := none }) _
  jvm_step X₁.here [X₁.here.top, hexec, d3', Value.category]
  exact hsteps
theorem vx_table {p : Program} {x y : MethodName} {S : Spec} {cc bytes : ByteArray} {maxL maxL' : Nat} {ret ret' : Option FieldType} {e : Env} {s s₁ : State} {m : MethodId} {args : Array Value} {below : List Frame} {meth : Method} {c : Code} {hh : List (Nat × Nat × Nat × Nat)}
    (B : BodyLoose p l y S cc maxL ret e s m args below meth c s₁) (h : (Cond.codeWith y bytes maxL' ret' hh).before args s = true) : c.exceptionTable.toList = tableOf hh := by
  obtain ⟨m9, meth9, c9, hn9, h1, h2, -, -, h6, -⟩ := Cond.codeWith_spec h
  cases Option.some.inj (hn9.symm.trans B.named)
  cases Option.some.inj (h1.symm.trans B.method)
  cases Option.some.inj (h2.symm.trans (Stand.of_body B).code)
  rw [← h6, table_eq]
end VXA
end
section
/-! tagged worlds: a cell is named by a number of ours (its tag), 'ad' says where it lies, 'ce' what it holds -/
abbrev zW : Type := Nat → Option va_E
def z_up (ce : zW) (t : Nat) (e : va_E) : zW := fun x => if x = t then some e else ce x
theorem z_up_s {ce : zW} {t : Nat} {e : va_E} : z_up ce t e t = some e := if_pos rfl
theorem z_up_n {ce : zW} {t u : Nat} {e : va_E} (h : u ≠ t) : z_up ce t e u = ce u := if_neg h
/-- the addresses that a method may write: those of its world, and those that come -/
def zA (ad : Nat → Nat) (ce : zW) (sz : Nat) : Nat → Prop := fun q => (∃ (u : Nat) (e : va_E), ce u = some e ∧ ad u = q) ∨ sz ≤ q
def z_H (D : va_G) (cl : List vw_C) (A : Nat → Prop) (ad : Nat → Nat) (ce : zW) (H : Heap) : Prop :=
  (∀ (t : Nat) (e : va_E), ce t = some e → va_at D cl (ad t, e) H ∧ A (ad t)) ∧ (∀ (t u : Nat) (e f : va_E), ce t = some e → ce u = some f → ad t = ad u → t = u)
theorem z_H.set {D : va_G} {cl : List vw_C} {A : Nat → Prop} {ad : Nat → Nat} {ce : zW} {H H1 : Heap} {t : Nat} {e0 e : va_E} (h : z_H D cl A ad ce H) (ht : ce t = some e0) (h1 : va_at D cl (ad t, e) H1) (oq : ∀ q : Nat, q ≠ ad t → H1[q]? = H[q]?) : z_H D cl A ad (z_up ce t e) H1 := by
  refine ⟨fun u f hu => ?_, fun u w f g hu hw huw => ?_⟩
  · by_cases hut : u = t
    · subst hut
      rw [z_up_s] at hu
      cases hu
      exact ⟨h1, (h.1 _ _ ht).2⟩
    · rw [z_up_n hut] at hu
      exact ⟨(h.1 u f hu).1.kept (oq (ad u) (fun q => hut (h.2 u t _ _ hu ht q))), (h.1 u f hu).2⟩
  · by_cases hut : u = t <;> by_cases hwt : w = t
    · rw [hut, hwt]
    · rw [z_up_n hwt] at hw
      subst hut
      exact h.2 u w _ _ ht hw huw
    · rw [z_up_n hut] at hu
      subst hwt
      exact h.2 u w _ _ hu ht huw
    · rw [z_up_n hut] at hu
      rw [z_up_n hwt] at hw
      exact h.2 u w _ _ hu hw huw
theorem z_H.kept {D : va_G} {cl : List vw_C} {A : Nat → Prop} {ad : Nat → Nat} {ce : zW} {H H1 : Heap} (h : z_H D cl A ad ce H) (oq : ∀ q : Nat, q < H.size → H1[q]? = H[q]?) : z_H D cl A ad ce H1 :=
  ⟨fun t e ht => ⟨(h.1 t e ht).1.kept (oq _ (h.1 t e ht).1.lt), (h.1 t e ht).2⟩, h.2⟩
theorem z_H.weaken {D : va_G} {cl : List vw_C} {A B : Nat → Prop} {ad : Nat → Nat} {ce : zW} {H : Heap} (h : z_H D cl A ad ce H) (hAB : ∀ q, A q → B q) : z_H D cl B ad ce H :=
  ⟨fun t e ht => ⟨(h.1 t e ht).1, hAB _ (h.1 t e ht).2⟩, h.2⟩
/-- a new cell, under a tag that is free -/
theorem z_H.new {D : va_G} {cl : List vw_C} {A : Nat → Prop} {ad : Nat → Nat} {ce : zW} {H H1 : Heap} {t : Nat} {e : va_E} (h : z_H D cl A ad ce H) (ht : ce t = none) (h1 : va_at D cl (H.size, e) H1) (hA : A H.size) (oq : ∀ q : Nat, q < H.size → H1[q]? = H[q]?) : z_H D cl A (va_up ad t H.size) (z_up ce t e) H1 := by
  have hk := h.kept oq
  refine ⟨fun u f hu => ?_, fun u w f g hu hw huw => ?_⟩
  · by_cases hut : u = t
    · subst hut
      rw [z_up_s] at hu
      cases hu
      rw [va_up_self]
      exact ⟨h1, hA⟩
    · rw [z_up_n hut] at hu
      rw [va_up_ne _ _ hut]
      exact hk.1 u f hu
  · by_cases hut : u = t <;> by_cases hwt : w = t
    · rw [hut, hwt]
    · rw [z_up_n hwt] at hw
      rw [hut, va_up_self, va_up_ne _ _ hwt] at huw
      exact absurd huw.symm (Nat.ne_of_lt (h.1 w _ hw).1.lt)
    · rw [z_up_n hut] at hu
      rw [hwt, va_up_self, va_up_ne _ _ hut] at huw
      exact absurd huw (Nat.ne_of_lt (h.1 u _ hu).1.lt)
    · rw [z_up_n hut] at hu
      rw [z_up_n hwt] at hw
      rw [va_up_ne _ _ hut, va_up_ne _ _ hwt] at huw
      exact h.2 u w _ _ hu hw huw
theorem z_H.cong {D : va_G} {cl : List vw_C} {A : Nat → Prop} {ad : Nat → Nat} {ce ce' : zW} {H : Heap} (h : z_H D cl A ad ce H) (hc : ∀ t, ce' t = ce t) : z_H D cl A ad ce' H := by
  have : ce' = ce := funext hc
  rw [this]
  exact h
theorem z_P1 {D : va_G} {cl : List vw_C} {a : Nat} {e : va_E} {H : Heap} (h : va_at D cl (a, e) H) : va_P D cl [(a, e)] H := by
  intro k q hq
  cases k with
  | zero => cases hq; exact h
  | succ k => simp at hq
/-- the tables' words, for good -/
def zT (Ts : List Cond) (s : State) : Prop := ∀ w ∈ Ts, ∀ (a' : Array Value) (U : State), s.WarmedH U.vm → w.before a' U = true
theorem zT.on {Ts : List Cond} {s U : State} (h : zT Ts s) (hW : s.WarmedH U.vm) : zT Ts U := fun w hw a' V hV => h w hw a' V (State.WarmedH.trans hW hV)
theorem zT.at {Ts : List Cond} {s : State} (h : zT Ts s) {w : Cond} (hw : w ∈ Ts) (a : Array Value) : w.before a s = true := h w hw a s (State.WarmedH.refl s)
/-- what Throwable's two statics hold, so long as nobody writes them -/
def zS (A : Nat → Prop) (U : State) (H : Heap) : Prop := vx_Zq Bundle.tN "UNASSIGNED_STACK" Bundle.steD A U H ∧ vx_Zq Bundle.tN "SUPPRESSED_SENTINEL" Bundle.listD A U H
theorem zS.on {A B : Nat → Prop} {s U : State} (hal : s.vm.Alike U.vm) (h : zS A s s.heap) (hq : ∀ q : Nat, q < s.heap.size → ¬ A q → U.heap[q]? = s.heap[q]?) (hAB : ∀ q, B q → A q) : zS B U U.heap :=
  ⟨(vx_Zq.moved hal (h.1.kept hq)).narrow hAB, (vx_Zq.moved hal (h.2.kept hq)).narrow hAB⟩
abbrev zX : Type := (Program × Launch × Env × Room × State) × (MethodId × Array Value × List Frame × Method × Code) × (va_G × List vw_C × List (ClassId × FieldType)) × (Nat → Prop) × (State → Prop)
abbrev zRm (x : zX) : Room := x.1.2.2.2.1
abbrev zcl (x : zX) : List vw_C := x.2.2.1.2.1
abbrev ztys (x : zX) : List (ClassId × FieldType) := x.2.2.1.2.2
abbrev zmeth (x : zX) : Method := x.2.1.2.2.2.1
abbrev zcode (x : zX) : Code := x.2.1.2.2.2.2
def zV (x : zX) (ad : Nat → Nat) (ce : zW) (n i : Nat) (lv : List (Nat × Value)) (pc : Nat) (st : List Value) : Prop :=
  ∀ (H : Heap) (locs : List Loc) (ls : Array Slot), z_H x.2.2.1.1 x.2.2.1.2.1 x.2.2.2.1 ad ce H → va_S x.2.2.2.1 x.1.2.2.2.2.heap H locs → lv_has ls x.2.1.2.2.2.2.maxLocals lv →
    W x.1.1 x.1.2.1 x.1.2.2.1 x.1.2.2.2.1 x.1.2.2.2.2 x.2.1.1 x.2.1.2.1 x.2.1.2.2.1 x.2.1.2.2.2.1 x.2.1.2.2.2.2 H locs n i x.2.2.2.2 (F0 x.2.1.1 pc ls st)
def zOk (x : zX) (cc : ByteArray) (own : String) (Ts : List Cond) (l : Launch) (D : va_G) (cl : List vw_C) (tys : List (ClassId × FieldType)) : Prop :=
  x.1.1.tables.exec = Jvm.exec ∧ x.2.1.2.2.2.2.code = cc ∧ x.1.2.2.2.2.vm.findClass own = some x.2.1.1.cls ∧ zT Ts x.1.2.2.2.2 ∧ va_K x.2.2.1.1 x.2.2.1.2.1 x.2.2.1.2.2 x.1.2.2.2.2 ∧ (∀ q, x.1.2.2.2.2.heap.size ≤ q → x.2.2.2.1 q) ∧ x.2.1.2.2.2.1.locks = false ∧ zS x.2.2.2.1 x.1.2.2.2.2 x.1.2.2.2.2.heap ∧ x.1.2.1 = l ∧ x.2.2.1 = (D, cl, tys)
/-- what is known of a class of the list: its place, its words, its types, its names apart -/
def zCl (Ts : List Cond) (cl : List vw_C) (ci : Nat) (C : String) (T : u_T) (N : Nat) (ty : Nat → FieldType) : Prop := cl[ci]? = some (C, T, N) ∧ (∀ w ∈ u_ws C T N, w ∈ Ts) ∧ (∀ k, k < N → parseFieldDescriptor (T k).2.2.1 = some (ty k)) ∧ (∀ a, a < N → ∀ b, b < N → a ≠ b → (T a).2.1 ≠ (T b).2.1)
section ZR
variable {x : zX} {cc : ByteArray} {own : String} {Ts : List Cond} {l : Launch} {D : va_G} {cl : List vw_C} {tys : List (ClassId × FieldType)} {ad : Nat → Nat} {ce : zW} {n i pc : Nat} {lv : List (Nat × Value)} {st : List Value}
/-- another picture of the same cells -/
theorem z_pic {ce' : zW} (h : ∀ t, ce' t = ce t) (k : zV x ad ce' n i lv pc st) : zV x ad ce n i lv pc st := by
  have : ce' = ce := funext h
  rw [← this]
  exact k
theorem z_widen {n' i' : Nat} (h1 : n ≤ n') (h2 : i ≤ i') (k : zV x ad ce n' i' lv pc st) : zV x ad ce n i lv pc st :=
  fun H locs ls hH hS hl => W.widen h1 h2 (k H locs ls hH hS hl)
theorem z_lv (ks : List Nat) (lv' : List (Nat × Value)) (h : lv_pick lv ks = lv') (k : zV x ad ce n i lv' pc st) : zV x ad ce n i lv pc st :=
  fun H locs ls hH hS hl => k H locs ls hH hS (lv_sub hl ks h)
theorem z_pc {pc' : Nat} (h : pc' = pc) (k : zV x ad ce n i lv pc' st) : zV x ad ce n i lv pc st := h ▸ k
theorem z_iconst (hx : zOk x cc own Ts l D cl tys) {q : Int} {v : Int32} (hd : decode cc pc = .ok (.iconst q, 1)) (hv : Int32.ofInt q = v) (k : zV x ad ce n i lv (pc + 1) (.int v :: st)) : zV x ad ce n i lv pc st := by
  obtain ⟨⟨p, l0, e, R, s⟩, ⟨m, args, below, meth, c⟩, ⟨D0, cl0, tys0⟩, A, Q⟩ := x
  obtain ⟨hexec, hb, hown, hts0, hK, hA, hlocks, hZ, hE1, hE⟩ := hx
  cases hE1
  cases hE
  have hts := fun w (h : w ∈ Ts) => zT.at hts0 h args
  intro H locs ls hH hS hl
  exact lv_iconst hexec hb hd hv (k H locs ls hH hS hl)
theorem z_bipush (hx : zOk x cc own Ts l D cl tys) {q : Int} {v : Int32} (hd : decode cc pc = .ok (.bipush q, 2)) (hv : (Int8.ofInt q).toInt32 = v) (k : zV x ad ce n i lv (pc + 2) (.int v :: st)) : zV x ad ce n i lv pc st := by
  obtain ⟨⟨p, l0, e, R, s⟩, ⟨m, args, below, meth, c⟩, ⟨D0, cl0, tys0⟩, A, Q⟩ := x
  obtain ⟨hexec, hb, hown, hts0, hK, hA, hlocks, hZ, hE1, hE⟩ := hx
  cases hE1
  cases hE
  have hts := fun w (h : w ∈ Ts) => zT.at hts0 h args
  intro H locs ls hH hS hl
  exact lv_bipush hexec hb hd hv (k H locs ls hH hS hl)
theorem z_sipush (hx : zOk x cc own Ts l D cl tys) {q : Int} {v : Int32} (hd : decode cc pc = .ok (.sipush q, 3)) (hv : (Int16.ofInt q).toInt32 = v) (k : zV x ad ce n i lv (pc + 3) (.int v :: st)) : zV x ad ce n i lv pc st := by
  obtain ⟨⟨p, l0, e, R, s⟩, ⟨m, args, below, meth, c⟩, ⟨D0, cl0, tys0⟩, A, Q⟩ := x
  obtain ⟨hexec, hb, hown, hts0, hK, hA, hlocks, hZ, hE1, hE⟩ := hx
  cases hE1
  cases hE
  have hts := fun w (h : w ∈ Ts) => zT.at hts0 h args
  intro H locs ls hH hS hl
  exact lv_sipush hexec hb hd hv (k H locs ls hH hS hl)
theorem z_lconst (hx : zOk x cc own Ts l D cl tys) {q : Fin 2} {v : Int64} (hd : decode cc pc = .ok (.lconst q, 1)) (hv : Int64.ofNat (q : Nat) = v) (k : zV x ad ce n i lv (pc + 1) (.long v :: st)) : zV x ad ce n i lv pc st := by
  obtain ⟨⟨p, l0, e, R, s⟩, ⟨m, args, below, meth, c⟩, ⟨D0, cl0, tys0⟩, A, Q⟩ := x
  obtain ⟨hexec, hb, hown, hts0, hK, hA, hlocks, hZ, hE1, hE⟩ := hx
  cases hE1
  cases hE
  have hts := fun w (h : w ∈ Ts) => zT.at hts0 h args
  intro H locs ls hH hS hl
  exact lv_lconst hexec hb hd hv (k H locs ls hH hS hl)
theorem z_ldc (hx : zOk x cc own Ts l D cl tys) {idx : Nat} {v : Int32} (hd : decode cc pc = .ok (.ldc idx, 2)) (hw : Jvm.Cond.constant own idx v ∈ Ts) (k : zV x ad ce n i lv (pc + 2) (.int v :: st)) : zV x ad ce n i lv pc st := by
  obtain ⟨⟨p, l0, e, R, s⟩, ⟨m, args, below, meth, c⟩, ⟨D0, cl0, tys0⟩, A, Q⟩ := x
  obtain ⟨hexec, hb, hown, hts0, hK, hA, hlocks, hZ, hE1, hE⟩ := hx
  cases hE1
  cases hE
  have hts := fun w (h : w ∈ Ts) => zT.at hts0 h args
  intro H locs ls hH hS hl
  exact lv_ldc hexec hb hown (hts _ hw) hd (k H locs ls hH hS hl)
theorem z_ldc2 (hx : zOk x cc own Ts l D cl tys) {idx : Nat} {v : Int64} (hd : decode cc pc = .ok (.ldc2_w idx, 3)) (hw : Jvm.Cond.constantLong own idx v ∈ Ts) (k : zV x ad ce n i lv (pc + 3) (.long v :: st)) : zV x ad ce n i lv pc st := by
  obtain ⟨⟨p, l0, e, R, s⟩, ⟨m, args, below, meth, c⟩, ⟨D0, cl0, tys0⟩, A, Q⟩ := x
  obtain ⟨hexec, hb, hown, hts0, hK, hA, hlocks, hZ, hE1, hE⟩ := hx
  cases hE1
  cases hE
  have hts := fun w (h : w ∈ Ts) => zT.at hts0 h args
  intro H locs ls hH hS hl
  exact lv_ldc2 hexec hb hown (hts _ hw) hd (k H locs ls hH hS hl)
theorem z_null (hx : zOk x cc own Ts l D cl tys)  (hd : decode cc pc = .ok (.aconst_null, 1)) (k : zV x ad ce n i lv (pc + 1) (.null :: st)) : zV x ad ce n i lv pc st := by
  obtain ⟨⟨p, l0, e, R, s⟩, ⟨m, args, below, meth, c⟩, ⟨D0, cl0, tys0⟩, A, Q⟩ := x
  obtain ⟨hexec, hb, hown, hts0, hK, hA, hlocks, hZ, hE1, hE⟩ := hx
  cases hE1
  cases hE
  have hts := fun w (h : w ∈ Ts) => zT.at hts0 h args
  intro H locs ls hH hS hl
  exact lv_null hexec hb hd (k H locs ls hH hS hl)
theorem z_iload_n (hx : zOk x cc own Ts l D cl tys) {q : Fin 4} {v : Int32} (j : Nat) (hd : decode cc pc = .ok (.iload_n q, 1)) (hj : lv[j]? = some ((q : Nat), .int v)) (k : zV x ad ce n i lv (pc + 1) (.int v :: st)) : zV x ad ce n i lv pc st := by
  obtain ⟨⟨p, l0, e, R, s⟩, ⟨m, args, below, meth, c⟩, ⟨D0, cl0, tys0⟩, A, Q⟩ := x
  obtain ⟨hexec, hb, hown, hts0, hK, hA, hlocks, hZ, hE1, hE⟩ := hx
  cases hE1
  cases hE
  have hts := fun w (h : w ∈ Ts) => zT.at hts0 h args
  intro H locs ls hH hS hl
  exact lv_iload_n hexec hb hd rfl (lv_at hl j hj) (k H locs ls hH hS hl)
theorem z_iload (hx : zOk x cc own Ts l D cl tys) {q : Nat} {v : Int32} (j : Nat) (hd : decode cc pc = .ok (.iload q, 2)) (hj : lv[j]? = some (q, .int v)) (k : zV x ad ce n i lv (pc + 2) (.int v :: st)) : zV x ad ce n i lv pc st := by
  obtain ⟨⟨p, l0, e, R, s⟩, ⟨m, args, below, meth, c⟩, ⟨D0, cl0, tys0⟩, A, Q⟩ := x
  obtain ⟨hexec, hb, hown, hts0, hK, hA, hlocks, hZ, hE1, hE⟩ := hx
  cases hE1
  cases hE
  have hts := fun w (h : w ∈ Ts) => zT.at hts0 h args
  intro H locs ls hH hS hl
  exact lv_iload hexec hb hd (lv_at hl j hj) (k H locs ls hH hS hl)
theorem z_lload_n (hx : zOk x cc own Ts l D cl tys) {q : Fin 4} {v : Int64} (j : Nat) (hd : decode cc pc = .ok (.lload_n q, 1)) (hj : lv[j]? = some ((q : Nat), .long v)) (k : zV x ad ce n i lv (pc + 1) (.long v :: st)) : zV x ad ce n i lv pc st := by
  obtain ⟨⟨p, l0, e, R, s⟩, ⟨m, args, below, meth, c⟩, ⟨D0, cl0, tys0⟩, A, Q⟩ := x
  obtain ⟨hexec, hb, hown, hts0, hK, hA, hlocks, hZ, hE1, hE⟩ := hx
  cases hE1
  cases hE
  have hts := fun w (h : w ∈ Ts) => zT.at hts0 h args
  intro H locs ls hH hS hl
  exact lv_lload_n hexec hb hd rfl (lv_at hl j hj) (k H locs ls hH hS hl)
theorem z_lload (hx : zOk x cc own Ts l D cl tys) {q : Nat} {v : Int64} (j : Nat) (hd : decode cc pc = .ok (.lload q, 2)) (hj : lv[j]? = some (q, .long v)) (k : zV x ad ce n i lv (pc + 2) (.long v :: st)) : zV x ad ce n i lv pc st := by
  obtain ⟨⟨p, l0, e, R, s⟩, ⟨m, args, below, meth, c⟩, ⟨D0, cl0, tys0⟩, A, Q⟩ := x
  obtain ⟨hexec, hb, hown, hts0, hK, hA, hlocks, hZ, hE1, hE⟩ := hx
  cases hE1
  cases hE
  have hts := fun w (h : w ∈ Ts) => zT.at hts0 h args
  intro H locs ls hH hS hl
  exact lv_lload hexec hb hd (lv_at hl j hj) (k H locs ls hH hS hl)
theorem z_aload_n (hx : zOk x cc own Ts l D cl tys) {q : Fin 4} {v : Nat} (j : Nat) (hd : decode cc pc = .ok (.aload_n q, 1)) (hj : lv[j]? = some ((q : Nat), .ref v)) (k : zV x ad ce n i lv (pc + 1) (.ref v :: st)) : zV x ad ce n i lv pc st := by
  obtain ⟨⟨p, l0, e, R, s⟩, ⟨m, args, below, meth, c⟩, ⟨D0, cl0, tys0⟩, A, Q⟩ := x
  obtain ⟨hexec, hb, hown, hts0, hK, hA, hlocks, hZ, hE1, hE⟩ := hx
  cases hE1
  cases hE
  have hts := fun w (h : w ∈ Ts) => zT.at hts0 h args
  intro H locs ls hH hS hl
  exact lv_aload_n hexec hb hd rfl (lv_at hl j hj) (k H locs ls hH hS hl)
theorem z_aload (hx : zOk x cc own Ts l D cl tys) {q : Nat} {v : Nat} (j : Nat) (hd : decode cc pc = .ok (.aload q, 2)) (hj : lv[j]? = some (q, .ref v)) (k : zV x ad ce n i lv (pc + 2) (.ref v :: st)) : zV x ad ce n i lv pc st := by
  obtain ⟨⟨p, l0, e, R, s⟩, ⟨m, args, below, meth, c⟩, ⟨D0, cl0, tys0⟩, A, Q⟩ := x
  obtain ⟨hexec, hb, hown, hts0, hK, hA, hlocks, hZ, hE1, hE⟩ := hx
  cases hE1
  cases hE
  have hts := fun w (h : w ∈ Ts) => zT.at hts0 h args
  intro H locs ls hH hS hl
  exact lv_aload hexec hb hd (lv_at hl j hj) (k H locs ls hH hS hl)
theorem z_aload_nN (hx : zOk x cc own Ts l D cl tys) {q : Fin 4} (j : Nat) (hd : decode cc pc = .ok (.aload_n q, 1)) (hj : lv[j]? = some ((q : Nat), .null)) (k : zV x ad ce n i lv (pc + 1) (.null :: st)) : zV x ad ce n i lv pc st := by
  obtain ⟨⟨p, l0, e, R, s⟩, ⟨m, args, below, meth, c⟩, ⟨D0, cl0, tys0⟩, A, Q⟩ := x
  obtain ⟨hexec, hb, hown, hts0, hK, hA, hlocks, hZ, hE1, hE⟩ := hx
  cases hE1
  cases hE
  have hts := fun w (h : w ∈ Ts) => zT.at hts0 h args
  intro H locs ls hH hS hl
  exact lv_aload_nN hexec hb hd rfl (lv_at hl j hj) (k H locs ls hH hS hl)
theorem z_aloadN (hx : zOk x cc own Ts l D cl tys) {q : Nat} (j : Nat) (hd : decode cc pc = .ok (.aload q, 2)) (hj : lv[j]? = some (q, .null)) (k : zV x ad ce n i lv (pc + 2) (.null :: st)) : zV x ad ce n i lv pc st := by
  obtain ⟨⟨p, l0, e, R, s⟩, ⟨m, args, below, meth, c⟩, ⟨D0, cl0, tys0⟩, A, Q⟩ := x
  obtain ⟨hexec, hb, hown, hts0, hK, hA, hlocks, hZ, hE1, hE⟩ := hx
  cases hE1
  cases hE
  have hts := fun w (h : w ∈ Ts) => zT.at hts0 h args
  intro H locs ls hH hS hl
  exact lv_aloadN hexec hb hd (lv_at hl j hj) (k H locs ls hH hS hl)
theorem z_iadd (hx : zOk x cc own Ts l D cl tys) {x1 y1 : Int32} (hd : decode cc pc = .ok (.iadd, 1)) (k : zV x ad ce n i lv (pc + 1) (.int (x1 + y1) :: st)) : zV x ad ce n i lv pc (.int y1 :: .int x1 :: st) := by
  obtain ⟨⟨p, l0, e, R, s⟩, ⟨m, args, below, meth, c⟩, ⟨D0, cl0, tys0⟩, A, Q⟩ := x
  obtain ⟨hexec, hb, hown, hts0, hK, hA, hlocks, hZ, hE1, hE⟩ := hx
  cases hE1
  cases hE
  have hts := fun w (h : w ∈ Ts) => zT.at hts0 h args
  intro H locs ls hH hS hl
  exact lv_iadd hexec hb hd (k H locs ls hH hS hl)
theorem z_isub (hx : zOk x cc own Ts l D cl tys) {x1 y1 : Int32} (hd : decode cc pc = .ok (.isub, 1)) (k : zV x ad ce n i lv (pc + 1) (.int (x1 - y1) :: st)) : zV x ad ce n i lv pc (.int y1 :: .int x1 :: st) := by
  obtain ⟨⟨p, l0, e, R, s⟩, ⟨m, args, below, meth, c⟩, ⟨D0, cl0, tys0⟩, A, Q⟩ := x
  obtain ⟨hexec, hb, hown, hts0, hK, hA, hlocks, hZ, hE1, hE⟩ := hx
  cases hE1
  cases hE
  have hts := fun w (h : w ∈ Ts) => zT.at hts0 h args
  intro H locs ls hH hS hl
  exact lv_isub hexec hb hd (k H locs ls hH hS hl)
theorem z_imul (hx : zOk x cc own Ts l D cl tys) {x1 y1 : Int32} (hd : decode cc pc = .ok (.imul, 1)) (k : zV x ad ce n i lv (pc + 1) (.int (x1 * y1) :: st)) : zV x ad ce n i lv pc (.int y1 :: .int x1 :: st) := by
  obtain ⟨⟨p, l0, e, R, s⟩, ⟨m, args, below, meth, c⟩, ⟨D0, cl0, tys0⟩, A, Q⟩ := x
  obtain ⟨hexec, hb, hown, hts0, hK, hA, hlocks, hZ, hE1, hE⟩ := hx
  cases hE1
  cases hE
  have hts := fun w (h : w ∈ Ts) => zT.at hts0 h args
  intro H locs ls hH hS hl
  exact lv_imul hexec hb hd (k H locs ls hH hS hl)
theorem z_iand (hx : zOk x cc own Ts l D cl tys) {x1 y1 : Int32} (hd : decode cc pc = .ok (.iand, 1)) (k : zV x ad ce n i lv (pc + 1) (.int (x1 &&& y1) :: st)) : zV x ad ce n i lv pc (.int y1 :: .int x1 :: st) := by
  obtain ⟨⟨p, l0, e, R, s⟩, ⟨m, args, below, meth, c⟩, ⟨D0, cl0, tys0⟩, A, Q⟩ := x
  obtain ⟨hexec, hb, hown, hts0, hK, hA, hlocks, hZ, hE1, hE⟩ := hx
  cases hE1
  cases hE
  have hts := fun w (h : w ∈ Ts) => zT.at hts0 h args
  intro H locs ls hH hS hl
  exact lv_iand hexec hb hd (k H locs ls hH hS hl)
theorem z_ior (hx : zOk x cc own Ts l D cl tys) {x1 y1 : Int32} (hd : decode cc pc = .ok (.ior, 1)) (k : zV x ad ce n i lv (pc + 1) (.int (x1 ||| y1) :: st)) : zV x ad ce n i lv pc (.int y1 :: .int x1 :: st) := by
  obtain ⟨⟨p, l0, e, R, s⟩, ⟨m, args, below, meth, c⟩, ⟨D0, cl0, tys0⟩, A, Q⟩ := x
  obtain ⟨hexec, hb, hown, hts0, hK, hA, hlocks, hZ, hE1, hE⟩ := hx
  cases hE1
  cases hE
  have hts := fun w (h : w ∈ Ts) => zT.at hts0 h args
  intro H locs ls hH hS hl
  exact lv_ior hexec hb hd (k H locs ls hH hS hl)
theorem z_ixor (hx : zOk x cc own Ts l D cl tys) {x1 y1 : Int32} (hd : decode cc pc = .ok (.ixor, 1)) (k : zV x ad ce n i lv (pc + 1) (.int (x1 ^^^ y1) :: st)) : zV x ad ce n i lv pc (.int y1 :: .int x1 :: st) := by
  obtain ⟨⟨p, l0, e, R, s⟩, ⟨m, args, below, meth, c⟩, ⟨D0, cl0, tys0⟩, A, Q⟩ := x
  obtain ⟨hexec, hb, hown, hts0, hK, hA, hlocks, hZ, hE1, hE⟩ := hx
  cases hE1
  cases hE
  have hts := fun w (h : w ∈ Ts) => zT.at hts0 h args
  intro H locs ls hH hS hl
  exact lv_ixor hexec hb hd (k H locs ls hH hS hl)
theorem z_ishl (hx : zOk x cc own Ts l D cl tys) {x1 y1 : Int32} (hd : decode cc pc = .ok (.ishl, 1)) (k : zV x ad ce n i lv (pc + 1) (.int (x1 <<< (y1 &&& 31)) :: st)) : zV x ad ce n i lv pc (.int y1 :: .int x1 :: st) := by
  obtain ⟨⟨p, l0, e, R, s⟩, ⟨m, args, below, meth, c⟩, ⟨D0, cl0, tys0⟩, A, Q⟩ := x
  obtain ⟨hexec, hb, hown, hts0, hK, hA, hlocks, hZ, hE1, hE⟩ := hx
  cases hE1
  cases hE
  have hts := fun w (h : w ∈ Ts) => zT.at hts0 h args
  intro H locs ls hH hS hl
  exact lv_ishl hexec hb hd (k H locs ls hH hS hl)
theorem z_ishr (hx : zOk x cc own Ts l D cl tys) {x1 y1 : Int32} (hd : decode cc pc = .ok (.ishr, 1)) (k : zV x ad ce n i lv (pc + 1) (.int (x1 >>> (y1 &&& 31)) :: st)) : zV x ad ce n i lv pc (.int y1 :: .int x1 :: st) := by
  obtain ⟨⟨p, l0, e, R, s⟩, ⟨m, args, below, meth, c⟩, ⟨D0, cl0, tys0⟩, A, Q⟩ := x
  obtain ⟨hexec, hb, hown, hts0, hK, hA, hlocks, hZ, hE1, hE⟩ := hx
  cases hE1
  cases hE
  have hts := fun w (h : w ∈ Ts) => zT.at hts0 h args
  intro H locs ls hH hS hl
  exact lv_ishr hexec hb hd (k H locs ls hH hS hl)
theorem z_ladd (hx : zOk x cc own Ts l D cl tys) {x1 y1 : Int64} (hd : decode cc pc = .ok (.ladd, 1)) (k : zV x ad ce n i lv (pc + 1) (.long (x1 + y1) :: st)) : zV x ad ce n i lv pc (.long y1 :: .long x1 :: st) := by
  obtain ⟨⟨p, l0, e, R, s⟩, ⟨m, args, below, meth, c⟩, ⟨D0, cl0, tys0⟩, A, Q⟩ := x
  obtain ⟨hexec, hb, hown, hts0, hK, hA, hlocks, hZ, hE1, hE⟩ := hx
  cases hE1
  cases hE
  have hts := fun w (h : w ∈ Ts) => zT.at hts0 h args
  intro H locs ls hH hS hl
  exact lv_ladd hexec hb hd (k H locs ls hH hS hl)
theorem z_lsub (hx : zOk x cc own Ts l D cl tys) {x1 y1 : Int64} (hd : decode cc pc = .ok (.lsub, 1)) (k : zV x ad ce n i lv (pc + 1) (.long (x1 - y1) :: st)) : zV x ad ce n i lv pc (.long y1 :: .long x1 :: st) := by
  obtain ⟨⟨p, l0, e, R, s⟩, ⟨m, args, below, meth, c⟩, ⟨D0, cl0, tys0⟩, A, Q⟩ := x
  obtain ⟨hexec, hb, hown, hts0, hK, hA, hlocks, hZ, hE1, hE⟩ := hx
  cases hE1
  cases hE
  have hts := fun w (h : w ∈ Ts) => zT.at hts0 h args
  intro H locs ls hH hS hl
  exact lv_lsub hexec hb hd (k H locs ls hH hS hl)
theorem z_lmul (hx : zOk x cc own Ts l D cl tys) {x1 y1 : Int64} (hd : decode cc pc = .ok (.lmul, 1)) (k : zV x ad ce n i lv (pc + 1) (.long (x1 * y1) :: st)) : zV x ad ce n i lv pc (.long y1 :: .long x1 :: st) := by
  obtain ⟨⟨p, l0, e, R, s⟩, ⟨m, args, below, meth, c⟩, ⟨D0, cl0, tys0⟩, A, Q⟩ := x
  obtain ⟨hexec, hb, hown, hts0, hK, hA, hlocks, hZ, hE1, hE⟩ := hx
  cases hE1
  cases hE
  have hts := fun w (h : w ∈ Ts) => zT.at hts0 h args
  intro H locs ls hH hS hl
  exact lv_lmul hexec hb hd (k H locs ls hH hS hl)
theorem z_land (hx : zOk x cc own Ts l D cl tys) {x1 y1 : Int64} (hd : decode cc pc = .ok (.land, 1)) (k : zV x ad ce n i lv (pc + 1) (.long (x1 &&& y1) :: st)) : zV x ad ce n i lv pc (.long y1 :: .long x1 :: st) := by
  obtain ⟨⟨p, l0, e, R, s⟩, ⟨m, args, below, meth, c⟩, ⟨D0, cl0, tys0⟩, A, Q⟩ := x
  obtain ⟨hexec, hb, hown, hts0, hK, hA, hlocks, hZ, hE1, hE⟩ := hx
  cases hE1
  cases hE
  have hts := fun w (h : w ∈ Ts) => zT.at hts0 h args
  intro H locs ls hH hS hl
  exact lv_land hexec hb hd (k H locs ls hH hS hl)
theorem z_lor (hx : zOk x cc own Ts l D cl tys) {x1 y1 : Int64} (hd : decode cc pc = .ok (.lor, 1)) (k : zV x ad ce n i lv (pc + 1) (.long (x1 ||| y1) :: st)) : zV x ad ce n i lv pc (.long y1 :: .long x1 :: st) := by
  obtain ⟨⟨p, l0, e, R, s⟩, ⟨m, args, below, meth, c⟩, ⟨D0, cl0, tys0⟩, A, Q⟩ := x
  obtain ⟨hexec, hb, hown, hts0, hK, hA, hlocks, hZ, hE1, hE⟩ := hx
  cases hE1
  cases hE
  have hts := fun w (h : w ∈ Ts) => zT.at hts0 h args
  intro H locs ls hH hS hl
  exact lv_lor hexec hb hd (k H locs ls hH hS hl)
theorem z_lxor (hx : zOk x cc own Ts l D cl tys) {x1 y1 : Int64} (hd : decode cc pc = .ok (.lxor, 1)) (k : zV x ad ce n i lv (pc + 1) (.long (x1 ^^^ y1) :: st)) : zV x ad ce n i lv pc (.long y1 :: .long x1 :: st) := by
  obtain ⟨⟨p, l0, e, R, s⟩, ⟨m, args, below, meth, c⟩, ⟨D0, cl0, tys0⟩, A, Q⟩ := x
  obtain ⟨hexec, hb, hown, hts0, hK, hA, hlocks, hZ, hE1, hE⟩ := hx
  cases hE1
  cases hE
  have hts := fun w (h : w ∈ Ts) => zT.at hts0 h args
  intro H locs ls hH hS hl
  exact lv_lxor hexec hb hd (k H locs ls hH hS hl)
theorem z_idiv (hx : zOk x cc own Ts l D cl tys) {x1 y1 : Int32} (hd : decode cc pc = .ok (.idiv, 1)) (hne : ¬ y1 = 0) (k : zV x ad ce n i lv (pc + 1) (.int (x1 / y1) :: st)) : zV x ad ce n i lv pc (.int y1 :: .int x1 :: st) := by
  obtain ⟨⟨p, l0, e, R, s⟩, ⟨m, args, below, meth, c⟩, ⟨D0, cl0, tys0⟩, A, Q⟩ := x
  obtain ⟨hexec, hb, hown, hts0, hK, hA, hlocks, hZ, hE1, hE⟩ := hx
  cases hE1
  cases hE
  have hts := fun w (h : w ∈ Ts) => zT.at hts0 h args
  intro H locs ls hH hS hl
  exact lv_idiv hexec hb hd hne (k H locs ls hH hS hl)
theorem z_irem (hx : zOk x cc own Ts l D cl tys) {x1 y1 : Int32} (hd : decode cc pc = .ok (.irem, 1)) (hne : ¬ y1 = 0) (k : zV x ad ce n i lv (pc + 1) (.int (x1 - x1 / y1 * y1) :: st)) : zV x ad ce n i lv pc (.int y1 :: .int x1 :: st) := by
  obtain ⟨⟨p, l0, e, R, s⟩, ⟨m, args, below, meth, c⟩, ⟨D0, cl0, tys0⟩, A, Q⟩ := x
  obtain ⟨hexec, hb, hown, hts0, hK, hA, hlocks, hZ, hE1, hE⟩ := hx
  cases hE1
  cases hE
  have hts := fun w (h : w ∈ Ts) => zT.at hts0 h args
  intro H locs ls hH hS hl
  exact lv_irem hexec hb hd hne (k H locs ls hH hS hl)
theorem z_ldiv (hx : zOk x cc own Ts l D cl tys) {x1 y1 : Int64} (hd : decode cc pc = .ok (.ldiv, 1)) (hne : ¬ y1 = 0) (k : zV x ad ce n i lv (pc + 1) (.long (x1 / y1) :: st)) : zV x ad ce n i lv pc (.long y1 :: .long x1 :: st) := by
  obtain ⟨⟨p, l0, e, R, s⟩, ⟨m, args, below, meth, c⟩, ⟨D0, cl0, tys0⟩, A, Q⟩ := x
  obtain ⟨hexec, hb, hown, hts0, hK, hA, hlocks, hZ, hE1, hE⟩ := hx
  cases hE1
  cases hE
  have hts := fun w (h : w ∈ Ts) => zT.at hts0 h args
  intro H locs ls hH hS hl
  exact lv_ldiv hexec hb hd hne (k H locs ls hH hS hl)
theorem z_lrem (hx : zOk x cc own Ts l D cl tys) {x1 y1 : Int64} (hd : decode cc pc = .ok (.lrem, 1)) (hne : ¬ y1 = 0) (k : zV x ad ce n i lv (pc + 1) (.long (x1 - x1 / y1 * y1) :: st)) : zV x ad ce n i lv pc (.long y1 :: .long x1 :: st) := by
  obtain ⟨⟨p, l0, e, R, s⟩, ⟨m, args, below, meth, c⟩, ⟨D0, cl0, tys0⟩, A, Q⟩ := x
  obtain ⟨hexec, hb, hown, hts0, hK, hA, hlocks, hZ, hE1, hE⟩ := hx
  cases hE1
  cases hE
  have hts := fun w (h : w ∈ Ts) => zT.at hts0 h args
  intro H locs ls hH hS hl
  exact lv_lrem hexec hb hd hne (k H locs ls hH hS hl)
theorem z_ineg (hx : zOk x cc own Ts l D cl tys) {x1 : Int32} (hd : decode cc pc = .ok (.ineg, 1)) (k : zV x ad ce n i lv (pc + 1) (.int (-x1) :: st)) : zV x ad ce n i lv pc (.int x1 :: st) := by
  obtain ⟨⟨p, l0, e, R, s⟩, ⟨m, args, below, meth, c⟩, ⟨D0, cl0, tys0⟩, A, Q⟩ := x
  obtain ⟨hexec, hb, hown, hts0, hK, hA, hlocks, hZ, hE1, hE⟩ := hx
  cases hE1
  cases hE
  have hts := fun w (h : w ∈ Ts) => zT.at hts0 h args
  intro H locs ls hH hS hl
  exact lv_ineg hexec hb hd (k H locs ls hH hS hl)
theorem z_lneg (hx : zOk x cc own Ts l D cl tys) {x1 : Int64} (hd : decode cc pc = .ok (.lneg, 1)) (k : zV x ad ce n i lv (pc + 1) (.long (-x1) :: st)) : zV x ad ce n i lv pc (.long x1 :: st) := by
  obtain ⟨⟨p, l0, e, R, s⟩, ⟨m, args, below, meth, c⟩, ⟨D0, cl0, tys0⟩, A, Q⟩ := x
  obtain ⟨hexec, hb, hown, hts0, hK, hA, hlocks, hZ, hE1, hE⟩ := hx
  cases hE1
  cases hE
  have hts := fun w (h : w ∈ Ts) => zT.at hts0 h args
  intro H locs ls hH hS hl
  exact lv_lneg hexec hb hd (k H locs ls hH hS hl)
theorem z_i2l (hx : zOk x cc own Ts l D cl tys) {x1 : Int32} (hd : decode cc pc = .ok (.i2l, 1)) (k : zV x ad ce n i lv (pc + 1) (.long x1.toInt64 :: st)) : zV x ad ce n i lv pc (.int x1 :: st) := by
  obtain ⟨⟨p, l0, e, R, s⟩, ⟨m, args, below, meth, c⟩, ⟨D0, cl0, tys0⟩, A, Q⟩ := x
  obtain ⟨hexec, hb, hown, hts0, hK, hA, hlocks, hZ, hE1, hE⟩ := hx
  cases hE1
  cases hE
  have hts := fun w (h : w ∈ Ts) => zT.at hts0 h args
  intro H locs ls hH hS hl
  exact lv_i2l hexec hb hd rfl (k H locs ls hH hS hl)
theorem z_l2i (hx : zOk x cc own Ts l D cl tys) {x1 : Int64} (hd : decode cc pc = .ok (.l2i, 1)) (k : zV x ad ce n i lv (pc + 1) (.int x1.toInt32 :: st)) : zV x ad ce n i lv pc (.long x1 :: st) := by
  obtain ⟨⟨p, l0, e, R, s⟩, ⟨m, args, below, meth, c⟩, ⟨D0, cl0, tys0⟩, A, Q⟩ := x
  obtain ⟨hexec, hb, hown, hts0, hK, hA, hlocks, hZ, hE1, hE⟩ := hx
  cases hE1
  cases hE
  have hts := fun w (h : w ∈ Ts) => zT.at hts0 h args
  intro H locs ls hH hS hl
  exact lv_l2i hexec hb hd rfl (k H locs ls hH hS hl)
theorem z_iushr (hx : zOk x cc own Ts l D cl tys) {x1 y1 : Int32} (hd : decode cc pc = .ok (.iushr, 1)) (k : zV x ad ce n i lv (pc + 1) (.int (x1.toUInt32 >>> (y1.toUInt32 &&& Int32.toUInt32 31)).toInt32 :: st)) : zV x ad ce n i lv pc (.int y1 :: .int x1 :: st) := by
  obtain ⟨⟨p, l0, e, R, s⟩, ⟨m, args, below, meth, c⟩, ⟨D0, cl0, tys0⟩, A, Q⟩ := x
  obtain ⟨hexec, hb, hown, hts0, hK, hA, hlocks, hZ, hE1, hE⟩ := hx
  cases hE1
  cases hE
  have hts := fun w (h : w ∈ Ts) => zT.at hts0 h args
  intro H locs ls hH hS hl
  exact lv_iushr hexec hb hd rfl (k H locs ls hH hS hl)
theorem z_lushr (hx : zOk x cc own Ts l D cl tys) {x1 : Int64} {y1 : Int32} (hd : decode cc pc = .ok (.lushr, 1)) (k : zV x ad ce n i lv (pc + 1) (.long (x1.toUInt64 >>> (y1.toInt64.toUInt64 &&& Int64.toUInt64 63)).toInt64 :: st)) : zV x ad ce n i lv pc (.int y1 :: .long x1 :: st) := by
  obtain ⟨⟨p, l0, e, R, s⟩, ⟨m, args, below, meth, c⟩, ⟨D0, cl0, tys0⟩, A, Q⟩ := x
  obtain ⟨hexec, hb, hown, hts0, hK, hA, hlocks, hZ, hE1, hE⟩ := hx
  cases hE1
  cases hE
  have hts := fun w (h : w ∈ Ts) => zT.at hts0 h args
  intro H locs ls hH hS hl
  exact lv_lushr hexec hb hd rfl (k H locs ls hH hS hl)
theorem z_lshl (hx : zOk x cc own Ts l D cl tys) {x1 : Int64} {y1 : Int32} (hd : decode cc pc = .ok (.lshl, 1)) (k : zV x ad ce n i lv (pc + 1) (.long (x1 <<< (y1.toInt64 &&& 63)) :: st)) : zV x ad ce n i lv pc (.int y1 :: .long x1 :: st) := by
  obtain ⟨⟨p, l0, e, R, s⟩, ⟨m, args, below, meth, c⟩, ⟨D0, cl0, tys0⟩, A, Q⟩ := x
  obtain ⟨hexec, hb, hown, hts0, hK, hA, hlocks, hZ, hE1, hE⟩ := hx
  cases hE1
  cases hE
  have hts := fun w (h : w ∈ Ts) => zT.at hts0 h args
  intro H locs ls hH hS hl
  exact lv_lshl hexec hb hd rfl (k H locs ls hH hS hl)
theorem z_lshr (hx : zOk x cc own Ts l D cl tys) {x1 : Int64} {y1 : Int32} (hd : decode cc pc = .ok (.lshr, 1)) (k : zV x ad ce n i lv (pc + 1) (.long (x1 >>> (y1.toInt64 &&& 63)) :: st)) : zV x ad ce n i lv pc (.int y1 :: .long x1 :: st) := by
  obtain ⟨⟨p, l0, e, R, s⟩, ⟨m, args, below, meth, c⟩, ⟨D0, cl0, tys0⟩, A, Q⟩ := x
  obtain ⟨hexec, hb, hown, hts0, hK, hA, hlocks, hZ, hE1, hE⟩ := hx
  cases hE1
  cases hE
  have hts := fun w (h : w ∈ Ts) => zT.at hts0 h args
  intro H locs ls hH hS hl
  exact lv_lshr hexec hb hd rfl (k H locs ls hH hS hl)
theorem z_lcmp (hx : zOk x cc own Ts l D cl tys) {x1 y1 : Int64} (hd : decode cc pc = .ok (.lcmp, 1)) (k : zV x ad ce n i lv (pc + 1) (.int (lg_cmp x1 y1) :: st)) : zV x ad ce n i lv pc (.long y1 :: .long x1 :: st) := by
  obtain ⟨⟨p, l0, e, R, s⟩, ⟨m, args, below, meth, c⟩, ⟨D0, cl0, tys0⟩, A, Q⟩ := x
  obtain ⟨hexec, hb, hown, hts0, hK, hA, hlocks, hZ, hE1, hE⟩ := hx
  cases hE1
  cases hE
  have hts := fun w (h : w ∈ Ts) => zT.at hts0 h args
  intro H locs ls hH hS hl
  exact W.lcmp hexec hb hd (k H locs ls hH hS hl)
theorem z_dup (hx : zOk x cc own Ts l D cl tys) {va : Value} (hd : decode cc pc = .ok (.dup, 1)) (h1 : va.category = 1) (k : zV x ad ce n i lv (pc + 1) (va :: va :: st)) : zV x ad ce n i lv pc (va :: st) := by
  obtain ⟨⟨p, l0, e, R, s⟩, ⟨m, args, below, meth, c⟩, ⟨D0, cl0, tys0⟩, A, Q⟩ := x
  obtain ⟨hexec, hb, hown, hts0, hK, hA, hlocks, hZ, hE1, hE⟩ := hx
  cases hE1
  cases hE
  have hts := fun w (h : w ∈ Ts) => zT.at hts0 h args
  intro H locs ls hH hS hl
  exact lv_dup hexec hb hd h1 (k H locs ls hH hS hl)
theorem z_pop (hx : zOk x cc own Ts l D cl tys) {va : Value} (hd : decode cc pc = .ok (.pop, 1)) (h1 : va.category = 1) (k : zV x ad ce n i lv (pc + 1) st) : zV x ad ce n i lv pc (va :: st) := by
  obtain ⟨⟨p, l0, e, R, s⟩, ⟨m, args, below, meth, c⟩, ⟨D0, cl0, tys0⟩, A, Q⟩ := x
  obtain ⟨hexec, hb, hown, hts0, hK, hA, hlocks, hZ, hE1, hE⟩ := hx
  cases hE1
  cases hE
  have hts := fun w (h : w ∈ Ts) => zT.at hts0 h args
  intro H locs ls hH hS hl
  exact lv_pop hexec hb hd h1 (k H locs ls hH hS hl)
theorem z_dup_x1 (hx : zOk x cc own Ts l D cl tys) {va vb : Value} (hd : decode cc pc = .ok (.dup_x1, 1)) (h1 : va.category = 1) (h2 : vb.category = 1) (k : zV x ad ce n i lv (pc + 1) (va :: vb :: va :: st)) : zV x ad ce n i lv pc (va :: vb :: st) := by
  obtain ⟨⟨p, l0, e, R, s⟩, ⟨m, args, below, meth, c⟩, ⟨D0, cl0, tys0⟩, A, Q⟩ := x
  obtain ⟨hexec, hb, hown, hts0, hK, hA, hlocks, hZ, hE1, hE⟩ := hx
  cases hE1
  cases hE
  have hts := fun w (h : w ∈ Ts) => zT.at hts0 h args
  intro H locs ls hH hS hl
  exact lv_dup_x1 hexec hb hd h1 h2 (k H locs ls hH hS hl)
theorem z_dup_x2 (hx : zOk x cc own Ts l D cl tys) {va vb vd : Value} (hd : decode cc pc = .ok (.dup_x2, 1)) (h1 : va.category = 1) (h2 : vb.category = 1) (h3 : vd.category = 1) (k : zV x ad ce n i lv (pc + 1) (va :: vb :: vd :: va :: st)) : zV x ad ce n i lv pc (va :: vb :: vd :: st) := by
  obtain ⟨⟨p, l0, e, R, s⟩, ⟨m, args, below, meth, c⟩, ⟨D0, cl0, tys0⟩, A, Q⟩ := x
  obtain ⟨hexec, hb, hown, hts0, hK, hA, hlocks, hZ, hE1, hE⟩ := hx
  cases hE1
  cases hE
  have hts := fun w (h : w ∈ Ts) => zT.at hts0 h args
  intro H locs ls hH hS hl
  exact lv_dup_x2 hexec hb hd h1 h2 h3 (k H locs ls hH hS hl)
theorem z_dup2_11 (hx : zOk x cc own Ts l D cl tys) {va vb : Value} (hd : decode cc pc = .ok (.dup2, 1)) (h1 : va.category = 1) (h2 : vb.category = 1) (k : zV x ad ce n i lv (pc + 1) (va :: vb :: va :: vb :: st)) : zV x ad ce n i lv pc (va :: vb :: st) := by
  obtain ⟨⟨p, l0, e, R, s⟩, ⟨m, args, below, meth, c⟩, ⟨D0, cl0, tys0⟩, A, Q⟩ := x
  obtain ⟨hexec, hb, hown, hts0, hK, hA, hlocks, hZ, hE1, hE⟩ := hx
  cases hE1
  cases hE
  have hts := fun w (h : w ∈ Ts) => zT.at hts0 h args
  intro H locs ls hH hS hl
  exact lv_dup2_11 hexec hb hd h1 h2 (k H locs ls hH hS hl)
theorem z_dup2_2 (hx : zOk x cc own Ts l D cl tys) {va : Value} (hd : decode cc pc = .ok (.dup2, 1)) (h1 : va.category = 2) (k : zV x ad ce n i lv (pc + 1) (va :: va :: st)) : zV x ad ce n i lv pc (va :: st) := by
  obtain ⟨⟨p, l0, e, R, s⟩, ⟨m, args, below, meth, c⟩, ⟨D0, cl0, tys0⟩, A, Q⟩ := x
  obtain ⟨hexec, hb, hown, hts0, hK, hA, hlocks, hZ, hE1, hE⟩ := hx
  cases hE1
  cases hE
  have hts := fun w (h : w ∈ Ts) => zT.at hts0 h args
  intro H locs ls hH hS hl
  exact lv_dup2_2 hexec hb hd h1 (k H locs ls hH hS hl)
theorem z_pop2_2 (hx : zOk x cc own Ts l D cl tys) {va : Value} (hd : decode cc pc = .ok (.pop2, 1)) (h1 : va.category = 2) (k : zV x ad ce n i lv (pc + 1) st) : zV x ad ce n i lv pc (va :: st) := by
  obtain ⟨⟨p, l0, e, R, s⟩, ⟨m, args, below, meth, c⟩, ⟨D0, cl0, tys0⟩, A, Q⟩ := x
  obtain ⟨hexec, hb, hown, hts0, hK, hA, hlocks, hZ, hE1, hE⟩ := hx
  cases hE1
  cases hE
  have hts := fun w (h : w ∈ Ts) => zT.at hts0 h args
  intro H locs ls hH hS hl
  exact lv_pop2_2 hexec hb hd h1 (k H locs ls hH hS hl)
theorem z_dup2_x1_2 (hx : zOk x cc own Ts l D cl tys) {va vb : Value} (hd : decode cc pc = .ok (.dup2_x1, 1)) (h1 : va.category = 2) (h2 : vb.category = 1) (k : zV x ad ce n i lv (pc + 1) (va :: vb :: va :: st)) : zV x ad ce n i lv pc (va :: vb :: st) := by
  obtain ⟨⟨p, l0, e, R, s⟩, ⟨m, args, below, meth, c⟩, ⟨D0, cl0, tys0⟩, A, Q⟩ := x
  obtain ⟨hexec, hb, hown, hts0, hK, hA, hlocks, hZ, hE1, hE⟩ := hx
  cases hE1
  cases hE
  have hts := fun w (h : w ∈ Ts) => zT.at hts0 h args
  intro H locs ls hH hS hl
  exact lv_dup2_x1_2 hexec hb hd h1 h2 (k H locs ls hH hS hl)
theorem z_dup2_x2_2 (hx : zOk x cc own Ts l D cl tys) {va vb vd : Value} (hd : decode cc pc = .ok (.dup2_x2, 1)) (h1 : va.category = 2) (h2 : vb.category = 1) (h3 : vd.category = 1) (k : zV x ad ce n i lv (pc + 1) (va :: vb :: vd :: va :: st)) : zV x ad ce n i lv pc (va :: vb :: vd :: st) := by
  obtain ⟨⟨p, l0, e, R, s⟩, ⟨m, args, below, meth, c⟩, ⟨D0, cl0, tys0⟩, A, Q⟩ := x
  obtain ⟨hexec, hb, hown, hts0, hK, hA, hlocks, hZ, hE1, hE⟩ := hx
  cases hE1
  cases hE
  have hts := fun w (h : w ∈ Ts) => zT.at hts0 h args
  intro H locs ls hH hS hl
  exact lv_dup2_x2_2 hexec hb hd h1 h2 h3 (k H locs ls hH hS hl)
theorem z_goto (hx : zOk x cc own Ts l D cl tys) {off : Int} {tgt : Nat} (hd : decode cc pc = .ok (.goto off, 3)) (ht : (pc : Int) + off = (tgt : Int)) (k : zV x ad ce n i lv tgt st) : zV x ad ce n i lv pc st := by
  obtain ⟨⟨p, l0, e, R, s⟩, ⟨m, args, below, meth, c⟩, ⟨D0, cl0, tys0⟩, A, Q⟩ := x
  obtain ⟨hexec, hb, hown, hts0, hK, hA, hlocks, hZ, hE1, hE⟩ := hx
  cases hE1
  cases hE
  have hts := fun w (h : w ∈ Ts) => zT.at hts0 h args
  intro H locs ls hH hS hl
  exact lv_goto hexec hb hd ht (k H locs ls hH hS hl)
theorem z_ifnullR (hx : zOk x cc own Ts l D cl tys) {q : Nat} {off : Int} (hd : decode cc pc = .ok (.ifnull off, 3)) (k : zV x ad ce n i lv (pc + 3) st) : zV x ad ce n i lv pc (.ref q :: st) := by
  obtain ⟨⟨p, l0, e, R, s⟩, ⟨m, args, below, meth, c⟩, ⟨D0, cl0, tys0⟩, A, Q⟩ := x
  obtain ⟨hexec, hb, hown, hts0, hK, hA, hlocks, hZ, hE1, hE⟩ := hx
  cases hE1
  cases hE
  have hts := fun w (h : w ∈ Ts) => zT.at hts0 h args
  intro H locs ls hH hS hl
  exact lv_ifnull hexec hb hd (k H locs ls hH hS hl)
theorem z_ifnullN (hx : zOk x cc own Ts l D cl tys) {off : Int} {tgt : Nat} (hd : decode cc pc = .ok (.ifnull off, 3)) (ht : (pc : Int) + off = (tgt : Int)) (k : zV x ad ce n i lv tgt st) : zV x ad ce n i lv pc (.null :: st) := by
  obtain ⟨⟨p, l0, e, R, s⟩, ⟨m, args, below, meth, c⟩, ⟨D0, cl0, tys0⟩, A, Q⟩ := x
  obtain ⟨hexec, hb, hown, hts0, hK, hA, hlocks, hZ, hE1, hE⟩ := hx
  cases hE1
  cases hE
  have hts := fun w (h : w ∈ Ts) => zT.at hts0 h args
  intro H locs ls hH hS hl
  exact lv_ifnullN hexec hb hd ht (k H locs ls hH hS hl)
theorem z_ifnonnullR (hx : zOk x cc own Ts l D cl tys) {q : Nat} {off : Int} {tgt : Nat} (hd : decode cc pc = .ok (.ifnonnull off, 3)) (ht : (pc : Int) + off = (tgt : Int)) (k : zV x ad ce n i lv tgt st) : zV x ad ce n i lv pc (.ref q :: st) := by
  obtain ⟨⟨p, l0, e, R, s⟩, ⟨m, args, below, meth, c⟩, ⟨D0, cl0, tys0⟩, A, Q⟩ := x
  obtain ⟨hexec, hb, hown, hts0, hK, hA, hlocks, hZ, hE1, hE⟩ := hx
  cases hE1
  cases hE
  have hts := fun w (h : w ∈ Ts) => zT.at hts0 h args
  intro H locs ls hH hS hl
  exact lv_ifnonnull hexec hb hd ht (k H locs ls hH hS hl)
theorem z_ifnonnullN (hx : zOk x cc own Ts l D cl tys) {off : Int} (hd : decode cc pc = .ok (.ifnonnull off, 3)) (k : zV x ad ce n i lv (pc + 3) st) : zV x ad ce n i lv pc (.null :: st) := by
  obtain ⟨⟨p, l0, e, R, s⟩, ⟨m, args, below, meth, c⟩, ⟨D0, cl0, tys0⟩, A, Q⟩ := x
  obtain ⟨hexec, hb, hown, hts0, hK, hA, hlocks, hZ, hE1, hE⟩ := hx
  cases hE1
  cases hE
  have hts := fun w (h : w ∈ Ts) => zT.at hts0 h args
  intro H locs ls hH hS hl
  exact lv_ifnonnullN hexec hb hd (k H locs ls hH hS hl)
theorem z_if_eq (hx : zOk x cc own Ts l D cl tys) {x1 : Int32} {off : Int} {tgt : Nat} (hd : decode cc pc = .ok (.ifCond .eq off, 3)) (ht : (pc : Int) + off = (tgt : Int)) (kt : x1 = 0 → zV x ad ce n i lv tgt st) (kf : ¬ x1 = 0 → zV x ad ce n i lv (pc + 3) st) : zV x ad ce n i lv pc (.int x1 :: st) := by
  obtain ⟨⟨p, l0, e, R, s⟩, ⟨m, args, below, meth, c⟩, ⟨D0, cl0, tys0⟩, A, Q⟩ := x
  obtain ⟨hexec, hb, hown, hts0, hK, hA, hlocks, hZ, hE1, hE⟩ := hx
  cases hE1
  cases hE
  have hts := fun w (h : w ∈ Ts) => zT.at hts0 h args
  intro H locs ls hH hS hl
  exact lv_if_eq hexec hb hd ht (fun h => kt h H locs ls hH hS hl) (fun h => kf h H locs ls hH hS hl)
theorem z_icmp_eq (hx : zOk x cc own Ts l D cl tys) {x1 y1 : Int32} {off : Int} {tgt : Nat} (hd : decode cc pc = .ok (.if_icmp .eq off, 3)) (ht : (pc : Int) + off = (tgt : Int)) (kt : x1 = y1 → zV x ad ce n i lv tgt st) (kf : ¬ x1 = y1 → zV x ad ce n i lv (pc + 3) st) : zV x ad ce n i lv pc (.int y1 :: .int x1 :: st) := by
  obtain ⟨⟨p, l0, e, R, s⟩, ⟨m, args, below, meth, c⟩, ⟨D0, cl0, tys0⟩, A, Q⟩ := x
  obtain ⟨hexec, hb, hown, hts0, hK, hA, hlocks, hZ, hE1, hE⟩ := hx
  cases hE1
  cases hE
  have hts := fun w (h : w ∈ Ts) => zT.at hts0 h args
  intro H locs ls hH hS hl
  exact lv_icmp_eq hexec hb hd ht (fun h => kt h H locs ls hH hS hl) (fun h => kf h H locs ls hH hS hl)
theorem z_if_ne (hx : zOk x cc own Ts l D cl tys) {x1 : Int32} {off : Int} {tgt : Nat} (hd : decode cc pc = .ok (.ifCond .ne off, 3)) (ht : (pc : Int) + off = (tgt : Int)) (kt : ¬ x1 = 0 → zV x ad ce n i lv tgt st) (kf : x1 = 0 → zV x ad ce n i lv (pc + 3) st) : zV x ad ce n i lv pc (.int x1 :: st) := by
  obtain ⟨⟨p, l0, e, R, s⟩, ⟨m, args, below, meth, c⟩, ⟨D0, cl0, tys0⟩, A, Q⟩ := x
  obtain ⟨hexec, hb, hown, hts0, hK, hA, hlocks, hZ, hE1, hE⟩ := hx
  cases hE1
  cases hE
  have hts := fun w (h : w ∈ Ts) => zT.at hts0 h args
  intro H locs ls hH hS hl
  exact lv_if_ne hexec hb hd ht (fun h => kt h H locs ls hH hS hl) (fun h => kf h H locs ls hH hS hl)
theorem z_icmp_ne (hx : zOk x cc own Ts l D cl tys) {x1 y1 : Int32} {off : Int} {tgt : Nat} (hd : decode cc pc = .ok (.if_icmp .ne off, 3)) (ht : (pc : Int) + off = (tgt : Int)) (kt : ¬ x1 = y1 → zV x ad ce n i lv tgt st) (kf : x1 = y1 → zV x ad ce n i lv (pc + 3) st) : zV x ad ce n i lv pc (.int y1 :: .int x1 :: st) := by
  obtain ⟨⟨p, l0, e, R, s⟩, ⟨m, args, below, meth, c⟩, ⟨D0, cl0, tys0⟩, A, Q⟩ := x
  obtain ⟨hexec, hb, hown, hts0, hK, hA, hlocks, hZ, hE1, hE⟩ := hx
  cases hE1
  cases hE
  have hts := fun w (h : w ∈ Ts) => zT.at hts0 h args
  intro H locs ls hH hS hl
  exact lv_icmp_ne hexec hb hd ht (fun h => kt h H locs ls hH hS hl) (fun h => kf h H locs ls hH hS hl)
theorem z_if_lt (hx : zOk x cc own Ts l D cl tys) {x1 : Int32} {off : Int} {tgt : Nat} (hd : decode cc pc = .ok (.ifCond .lt off, 3)) (ht : (pc : Int) + off = (tgt : Int)) (kt : x1 < 0 → zV x ad ce n i lv tgt st) (kf : ¬ x1 < 0 → zV x ad ce n i lv (pc + 3) st) : zV x ad ce n i lv pc (.int x1 :: st) := by
  obtain ⟨⟨p, l0, e, R, s⟩, ⟨m, args, below, meth, c⟩, ⟨D0, cl0, tys0⟩, A, Q⟩ := x
  obtain ⟨hexec, hb, hown, hts0, hK, hA, hlocks, hZ, hE1, hE⟩ := hx
  cases hE1
  cases hE
  have hts := fun w (h : w ∈ Ts) => zT.at hts0 h args
  intro H locs ls hH hS hl
  exact lv_if_lt hexec hb hd ht (fun h => kt h H locs ls hH hS hl) (fun h => kf h H locs ls hH hS hl)
theorem z_icmp_lt (hx : zOk x cc own Ts l D cl tys) {x1 y1 : Int32} {off : Int} {tgt : Nat} (hd : decode cc pc = .ok (.if_icmp .lt off, 3)) (ht : (pc : Int) + off = (tgt : Int)) (kt : x1 < y1 → zV x ad ce n i lv tgt st) (kf : ¬ x1 < y1 → zV x ad ce n i lv (pc + 3) st) : zV x ad ce n i lv pc (.int y1 :: .int x1 :: st) := by
  obtain ⟨⟨p, l0, e, R, s⟩, ⟨m, args, below, meth, c⟩, ⟨D0, cl0, tys0⟩, A, Q⟩ := x
  obtain ⟨hexec, hb, hown, hts0, hK, hA, hlocks, hZ, hE1, hE⟩ := hx
  cases hE1
  cases hE
  have hts := fun w (h : w ∈ Ts) => zT.at hts0 h args
  intro H locs ls hH hS hl
  exact lv_icmp_lt hexec hb hd ht (fun h => kt h H locs ls hH hS hl) (fun h => kf h H locs ls hH hS hl)
theorem z_if_ge (hx : zOk x cc own Ts l D cl tys) {x1 : Int32} {off : Int} {tgt : Nat} (hd : decode cc pc = .ok (.ifCond .ge off, 3)) (ht : (pc : Int) + off = (tgt : Int)) (kt : 0 ≤ x1 → zV x ad ce n i lv tgt st) (kf : ¬ 0 ≤ x1 → zV x ad ce n i lv (pc + 3) st) : zV x ad ce n i lv pc (.int x1 :: st) := by
  obtain ⟨⟨p, l0, e, R, s⟩, ⟨m, args, below, meth, c⟩, ⟨D0, cl0, tys0⟩, A, Q⟩ := x
  obtain ⟨hexec, hb, hown, hts0, hK, hA, hlocks, hZ, hE1, hE⟩ := hx
  cases hE1
  cases hE
  have hts := fun w (h : w ∈ Ts) => zT.at hts0 h args
  intro H locs ls hH hS hl
  exact lv_if_ge hexec hb hd ht (fun h => kt h H locs ls hH hS hl) (fun h => kf h H locs ls hH hS hl)
theorem z_icmp_ge (hx : zOk x cc own Ts l D cl tys) {x1 y1 : Int32} {off : Int} {tgt : Nat} (hd : decode cc pc = .ok (.if_icmp .ge off, 3)) (ht : (pc : Int) + off = (tgt : Int)) (kt : y1 ≤ x1 → zV x ad ce n i lv tgt st) (kf : ¬ y1 ≤ x1 → zV x ad ce n i lv (pc + 3) st) : zV x ad ce n i lv pc (.int y1 :: .int x1 :: st) := by
  obtain ⟨⟨p, l0, e, R, s⟩, ⟨m, args, below, meth, c⟩, ⟨D0, cl0, tys0⟩, A, Q⟩ := x
  obtain ⟨hexec, hb, hown, hts0, hK, hA, hlocks, hZ, hE1, hE⟩ := hx
  cases hE1
  cases hE
  have hts := fun w (h : w ∈ Ts) => zT.at hts0 h args
  intro H locs ls hH hS hl
  exact lv_icmp_ge hexec hb hd ht (fun h => kt h H locs ls hH hS hl) (fun h => kf h H locs ls hH hS hl)
theorem z_if_gt (hx : zOk x cc own Ts l D cl tys) {x1 : Int32} {off : Int} {tgt : Nat} (hd : decode cc pc = .ok (.ifCond .gt off, 3)) (ht : (pc : Int) + off = (tgt : Int)) (kt : 0 < x1 → zV x ad ce n i lv tgt st) (kf : ¬ 0 < x1 → zV x ad ce n i lv (pc + 3) st) : zV x ad ce n i lv pc (.int x1 :: st) := by
  obtain ⟨⟨p, l0, e, R, s⟩, ⟨m, args, below, meth, c⟩, ⟨D0, cl0, tys0⟩, A, Q⟩ := x
  obtain ⟨hexec, hb, hown, hts0, hK, hA, hlocks, hZ, hE1, hE⟩ := hx
  cases hE1
  cases hE
  have hts := fun w (h : w ∈ Ts) => zT.at hts0 h args
  intro H locs ls hH hS hl
  exact lv_if_gt hexec hb hd ht (fun h => kt h H locs ls hH hS hl) (fun h => kf h H locs ls hH hS hl)
theorem z_icmp_gt (hx : zOk x cc own Ts l D cl tys) {x1 y1 : Int32} {off : Int} {tgt : Nat} (hd : decode cc pc = .ok (.if_icmp .gt off, 3)) (ht : (pc : Int) + off = (tgt : Int)) (kt : y1 < x1 → zV x ad ce n i lv tgt st) (kf : ¬ y1 < x1 → zV x ad ce n i lv (pc + 3) st) : zV x ad ce n i lv pc (.int y1 :: .int x1 :: st) := by
  obtain ⟨⟨p, l0, e, R, s⟩, ⟨m, args, below, meth, c⟩, ⟨D0, cl0, tys0⟩, A, Q⟩ := x
  obtain ⟨hexec, hb, hown, hts0, hK, hA, hlocks, hZ, hE1, hE⟩ := hx
  cases hE1
  cases hE
  have hts := fun w (h : w ∈ Ts) => zT.at hts0 h args
  intro H locs ls hH hS hl
  exact lv_icmp_gt hexec hb hd ht (fun h => kt h H locs ls hH hS hl) (fun h => kf h H locs ls hH hS hl)
theorem z_if_le (hx : zOk x cc own Ts l D cl tys) {x1 : Int32} {off : Int} {tgt : Nat} (hd : decode cc pc = .ok (.ifCond .le off, 3)) (ht : (pc : Int) + off = (tgt : Int)) (kt : x1 ≤ 0 → zV x ad ce n i lv tgt st) (kf : ¬ x1 ≤ 0 → zV x ad ce n i lv (pc + 3) st) : zV x ad ce n i lv pc (.int x1 :: st) := by
  obtain ⟨⟨p, l0, e, R, s⟩, ⟨m, args, below, meth, c⟩, ⟨D0, cl0, tys0⟩, A, Q⟩ := x
  obtain ⟨hexec, hb, hown, hts0, hK, hA, hlocks, hZ, hE1, hE⟩ := hx
  cases hE1
  cases hE
  have hts := fun w (h : w ∈ Ts) => zT.at hts0 h args
  intro H locs ls hH hS hl
  exact lv_if_le hexec hb hd ht (fun h => kt h H locs ls hH hS hl) (fun h => kf h H locs ls hH hS hl)
theorem z_icmp_le (hx : zOk x cc own Ts l D cl tys) {x1 y1 : Int32} {off : Int} {tgt : Nat} (hd : decode cc pc = .ok (.if_icmp .le off, 3)) (ht : (pc : Int) + off = (tgt : Int)) (kt : x1 ≤ y1 → zV x ad ce n i lv tgt st) (kf : ¬ x1 ≤ y1 → zV x ad ce n i lv (pc + 3) st) : zV x ad ce n i lv pc (.int y1 :: .int x1 :: st) := by
  obtain ⟨⟨p, l0, e, R, s⟩, ⟨m, args, below, meth, c⟩, ⟨D0, cl0, tys0⟩, A, Q⟩ := x
  obtain ⟨hexec, hb, hown, hts0, hK, hA, hlocks, hZ, hE1, hE⟩ := hx
  cases hE1
  cases hE
  have hts := fun w (h : w ∈ Ts) => zT.at hts0 h args
  intro H locs ls hH hS hl
  exact lv_icmp_le hexec hb hd ht (fun h => kt h H locs ls hH hS hl) (fun h => kf h H locs ls hH hS hl)
theorem z_istore_n (hx : zOk x cc own Ts l D cl tys) {q : Fin 4} {j : Nat} {v : Int32} (lv' : List (Nat × Value)) (hd : decode cc pc = .ok (.istore_n q, 1)) (hj : (q : Nat) = j) (hn : j < x.2.1.2.2.2.2.maxLocals) (hl' : (j, Value.int v) :: lv.filter (fun q => !(q.1 == j) && !(q.1 + 1 == j && q.2.category == 2)) = lv') (k : zV x ad ce n i lv' (pc + 1) st) : zV x ad ce n i lv pc (Value.int v :: st) := by
  obtain ⟨⟨p, l0, e, R, s⟩, ⟨m, args, below, meth, c⟩, ⟨D0, cl0, tys0⟩, A, Q⟩ := x
  obtain ⟨hexec, hb, hown, hts0, hK, hA, hlocks, hZ, hE1, hE⟩ := hx
  cases hE1
  cases hE
  have hts := fun w (h : w ∈ Ts) => zT.at hts0 h args
  intro H locs ls hH hS hl
  exact lv_istore_n hexec hb hd hj hl hn hl' (fun ls' h' => k H locs ls' hH hS h')
theorem z_istore (hx : zOk x cc own Ts l D cl tys) {j : Nat} {v : Int32} (lv' : List (Nat × Value)) (hd : decode cc pc = .ok (.istore j, 2))  (hn : j < x.2.1.2.2.2.2.maxLocals) (hl' : (j, Value.int v) :: lv.filter (fun q => !(q.1 == j) && !(q.1 + 1 == j && q.2.category == 2)) = lv') (k : zV x ad ce n i lv' (pc + 2) st) : zV x ad ce n i lv pc (Value.int v :: st) := by
  obtain ⟨⟨p, l0, e, R, s⟩, ⟨m, args, below, meth, c⟩, ⟨D0, cl0, tys0⟩, A, Q⟩ := x
  obtain ⟨hexec, hb, hown, hts0, hK, hA, hlocks, hZ, hE1, hE⟩ := hx
  cases hE1
  cases hE
  have hts := fun w (h : w ∈ Ts) => zT.at hts0 h args
  intro H locs ls hH hS hl
  exact lv_istore hexec hb hd hl hn hl' (fun ls' h' => k H locs ls' hH hS h')
theorem z_lstore_n (hx : zOk x cc own Ts l D cl tys) {q : Fin 4} {j : Nat} {v : Int64} (lv' : List (Nat × Value)) (hd : decode cc pc = .ok (.lstore_n q, 1)) (hj : (q : Nat) = j) (hn : j + 1 < x.2.1.2.2.2.2.maxLocals) (hl' : (j, Value.long v) :: lv.filter (fun q => !(q.1 == j) && (!(q.1 == j + 1) && !(q.1 + 1 == j && q.2.category == 2))) = lv') (k : zV x ad ce n i lv' (pc + 1) st) : zV x ad ce n i lv pc (Value.long v :: st) := by
  obtain ⟨⟨p, l0, e, R, s⟩, ⟨m, args, below, meth, c⟩, ⟨D0, cl0, tys0⟩, A, Q⟩ := x
  obtain ⟨hexec, hb, hown, hts0, hK, hA, hlocks, hZ, hE1, hE⟩ := hx
  cases hE1
  cases hE
  have hts := fun w (h : w ∈ Ts) => zT.at hts0 h args
  intro H locs ls hH hS hl
  exact lv_lstore_n hexec hb hd hj hl hn hl' (fun ls' h' => k H locs ls' hH hS h')
theorem z_lstore (hx : zOk x cc own Ts l D cl tys) {j : Nat} {v : Int64} (lv' : List (Nat × Value)) (hd : decode cc pc = .ok (.lstore j, 2))  (hn : j + 1 < x.2.1.2.2.2.2.maxLocals) (hl' : (j, Value.long v) :: lv.filter (fun q => !(q.1 == j) && (!(q.1 == j + 1) && !(q.1 + 1 == j && q.2.category == 2))) = lv') (k : zV x ad ce n i lv' (pc + 2) st) : zV x ad ce n i lv pc (Value.long v :: st) := by
  obtain ⟨⟨p, l0, e, R, s⟩, ⟨m, args, below, meth, c⟩, ⟨D0, cl0, tys0⟩, A, Q⟩ := x
  obtain ⟨hexec, hb, hown, hts0, hK, hA, hlocks, hZ, hE1, hE⟩ := hx
  cases hE1
  cases hE
  have hts := fun w (h : w ∈ Ts) => zT.at hts0 h args
  intro H locs ls hH hS hl
  exact lv_lstore hexec hb hd hl hn hl' (fun ls' h' => k H locs ls' hH hS h')
theorem z_astore_n (hx : zOk x cc own Ts l D cl tys) {q : Fin 4} {j : Nat} {v : Nat} (lv' : List (Nat × Value)) (hd : decode cc pc = .ok (.astore_n q, 1)) (hj : (q : Nat) = j) (hn : j < x.2.1.2.2.2.2.maxLocals) (hl' : (j, Value.ref v) :: lv.filter (fun q => !(q.1 == j) && !(q.1 + 1 == j && q.2.category == 2)) = lv') (k : zV x ad ce n i lv' (pc + 1) st) : zV x ad ce n i lv pc (Value.ref v :: st) := by
  obtain ⟨⟨p, l0, e, R, s⟩, ⟨m, args, below, meth, c⟩, ⟨D0, cl0, tys0⟩, A, Q⟩ := x
  obtain ⟨hexec, hb, hown, hts0, hK, hA, hlocks, hZ, hE1, hE⟩ := hx
  cases hE1
  cases hE
  have hts := fun w (h : w ∈ Ts) => zT.at hts0 h args
  intro H locs ls hH hS hl
  exact lv_astore_n hexec hb hd hj hl hn hl' (fun ls' h' => k H locs ls' hH hS h')
theorem z_astore (hx : zOk x cc own Ts l D cl tys) {j : Nat} {v : Nat} (lv' : List (Nat × Value)) (hd : decode cc pc = .ok (.astore j, 2))  (hn : j < x.2.1.2.2.2.2.maxLocals) (hl' : (j, Value.ref v) :: lv.filter (fun q => !(q.1 == j) && !(q.1 + 1 == j && q.2.category == 2)) = lv') (k : zV x ad ce n i lv' (pc + 2) st) : zV x ad ce n i lv pc (Value.ref v :: st) := by
  obtain ⟨⟨p, l0, e, R, s⟩, ⟨m, args, below, meth, c⟩, ⟨D0, cl0, tys0⟩, A, Q⟩ := x
  obtain ⟨hexec, hb, hown, hts0, hK, hA, hlocks, hZ, hE1, hE⟩ := hx
  cases hE1
  cases hE
  have hts := fun w (h : w ∈ Ts) => zT.at hts0 h args
  intro H locs ls hH hS hl
  exact lv_astore hexec hb hd hl hn hl' (fun ls' h' => k H locs ls' hH hS h')
theorem z_iinc (hx : zOk x cc own Ts l D cl tys) {q : Int} {v : Int32} (j0 : Nat) {j : Nat} {x1 : Int32} (lv' : List (Nat × Value)) (hd : decode cc pc = .ok (.iinc j q, 3)) (hj : lv[j0]? = some (j, .int x1)) (hv : x1 + Int32.ofInt q = v) (hn : j < x.2.1.2.2.2.2.maxLocals) (hl' : (j, Value.int v) :: lv.filter (fun q => !(q.1 == j) && !(q.1 + 1 == j && q.2.category == 2)) = lv') (k : zV x ad ce n i lv' (pc + 3) st) : zV x ad ce n i lv pc st := by
  obtain ⟨⟨p, l0, e, R, s⟩, ⟨m, args, below, meth, c⟩, ⟨D0, cl0, tys0⟩, A, Q⟩ := x
  obtain ⟨hexec, hb, hown, hts0, hK, hA, hlocks, hZ, hE1, hE⟩ := hx
  cases hE1
  cases hE
  have hts := fun w (h : w ∈ Ts) => zT.at hts0 h args
  intro H locs ls hH hS hl
  exact lv_iinc hexec hb hd hl hj hv hn hl' (fun ls' h' => k H locs ls' hH hS h')
-- ===== fields =====
theorem z_get (hx : zOk x cc own Ts l D cl tys) {C : String} {T : u_T} {N ci index t : Nat} {ty : Nat → FieldType} {fs : List Value} {v : Value} (hc : zCl Ts cl ci C T N ty) (he : ce t = some (.inr (ci, fs))) (j : Nat) (hj : j < N) (hw : Cond.fieldLink own index (T j).1 (T j).2.1 (T j).2.2.1 ∈ Ts) (hv : fs[j]? = some v) (hd : decode cc pc = .ok (.getfield index, 3)) (k : zV x ad ce n i lv (pc + 3) (v :: st)) : zV x ad ce n i lv pc (.ref (ad t) :: st) := by
  obtain ⟨⟨p, l0, e, R, s⟩, ⟨m, args, below, meth, c⟩, ⟨D0, cl0, tys0⟩, A, Q⟩ := x
  obtain ⟨hexec, hb, hown, hts0, hK, hA, hlocks, hZ, hE1, hE⟩ := hx
  cases hE1
  cases hE
  have hts := fun w (h : w ∈ Ts) => zT.at hts0 h args
  intro H locs ls hH hS hl
  exact va_get hexec hb hts hc.2.1 hown hK (z_P1 (hH.1 _ _ he).1) 0 rfl hc.1 j hj (hts _ hw) (fun _ h => h) hv hd (k H locs ls hH hS hl)
theorem z_getN (hx : zOk x cc own Ts l D cl tys) {C host : String} {T : u_T} {N ci index t : Nat} {ty : Nat → FieldType} {fs : List Value} {v : Value} (hc : zCl Ts cl ci C T N ty) (he : ce t = some (.inr (ci, fs))) (j : Nat) (hj : j < N) (hw : Cond.fieldLinkNest own index (T j).1 (T j).2.1 (T j).2.2.1 host ∈ Ts) (hv : fs[j]? = some v) (hd : decode cc pc = .ok (.getfield index, 3)) (k : zV x ad ce n i lv (pc + 3) (v :: st)) : zV x ad ce n i lv pc (.ref (ad t) :: st) := by
  obtain ⟨⟨p, l0, e, R, s⟩, ⟨m, args, below, meth, c⟩, ⟨D0, cl0, tys0⟩, A, Q⟩ := x
  obtain ⟨hexec, hb, hown, hts0, hK, hA, hlocks, hZ, hE1, hE⟩ := hx
  cases hE1
  cases hE
  have hts := fun w (h : w ∈ Ts) => zT.at hts0 h args
  intro H locs ls hH hS hl
  exact va_getN hexec hb hts hc.2.1 hown hK (z_P1 (hH.1 _ _ he).1) 0 rfl hc.1 j hj (hts _ hw) (fun _ h => h) hv hd (k H locs ls hH hS hl)
/-- a write: the picture behind it is another 'ce1' that differs at the tag alone -/
theorem z_put (hx : zOk x cc own Ts l D cl tys) {C : String} {T : u_T} {N ci index t : Nat} {ty : Nat → FieldType} {fs : List Value} {v : Value} (hc : zCl Ts cl ci C T N ty) (he : ce t = some (.inr (ci, fs))) (j : Nat) (hj : j < N) (hw : Cond.fieldLink own index (T j).1 (T j).2.1 (T j).2.2.1 ∈ Ts) (hfin : (T j).2.2.2 = false) (hn : narrow (ty j) v = v) (hfit : fits (ty j) v = true) (hlen : j < fs.length) (hd : decode cc pc = .ok (.putfield index, 3)) {ce1 : zW} (hce : ∀ u, ce1 u = z_up ce t (.inr (ci, fs.set j v)) u) (k : zV x ad ce1 n i lv (pc + 3) st) : zV x ad ce n i lv pc (v :: .ref (ad t) :: st) := by
  obtain ⟨⟨p, l0, e, R, s⟩, ⟨m, args, below, meth, c⟩, ⟨D0, cl0, tys0⟩, A, Q⟩ := x
  obtain ⟨hexec, hb, hown, hts0, hK, hA, hlocks, hZ, hE1, hE⟩ := hx
  cases hE1
  cases hE
  have hts := fun w (h : w ∈ Ts) => zT.at hts0 h args
  intro H locs ls hH hS hl
  obtain ⟨hcl, hin, hty, hnm⟩ := hc
  have hap := va_apart (own := own) hts hin ty hty hnm hK hcl
  obtain ⟨⟨r, h1, cell, q1, q2, q3, q4⟩, hAt⟩ := hH.1 _ _ he
  have hr : r = (C, T, N) := Option.some.inj (h1.symm.trans hcl)
  subst hr
  obtain ⟨hSl, hfc, kC, hkC, hkind⟩ := hK.1 ci _ hcl
  obtain ⟨cf, kf, fi, f, hi, hsl⟩ := hSl j hj
  have hlay := hts _ (hin _ (u_in_lay hj))
  unfold u_lay at hlay
  rw [if_neg (by rw [hfin]; decide)] at hlay
  have hst := (u_facts hfc hkC (u_lays hts hin hj) hi).1
  have h6 := u_store hfc hkC hkind hlay hi (hty j hj) hn hfit
  refine W.putK hexec hb (f := f) ⟨hown, hts _ hw, ⟨_, _, _, hi⟩, hst⟩ (by rw [q2]; exact h6) q1 q3 (by rw [hsl]; exact k2_hasslot (q4 j hj)) rfl rfl hd fun H' e1 e2 e3 => ?_
  rw [hsl] at e1 ⊢
  exact k H' _ ls ((hH.set (e := .inr (ci, fs.set j v)) he ⟨_, hcl, t_OB.to (V := updV (vp_V fs) j v) ⟨_, e1, q2, q3, t_set q4 hap hj v⟩ (fun j' _ => vp_updV_set hlen v j')⟩ e3).cong hce) (hS.put e2 e3 hAt) hl
theorem z_putN (hx : zOk x cc own Ts l D cl tys) {C host : String} {T : u_T} {N ci index t : Nat} {ty : Nat → FieldType} {fs : List Value} {v : Value} (hc : zCl Ts cl ci C T N ty) (he : ce t = some (.inr (ci, fs))) (j : Nat) (hj : j < N) (hw : Cond.fieldLinkNest own index (T j).1 (T j).2.1 (T j).2.2.1 host ∈ Ts) (hfin : (T j).2.2.2 = false) (hn : narrow (ty j) v = v) (hfit : fits (ty j) v = true) (hlen : j < fs.length) (hd : decode cc pc = .ok (.putfield index, 3)) {ce1 : zW} (hce : ∀ u, ce1 u = z_up ce t (.inr (ci, fs.set j v)) u) (k : zV x ad ce1 n i lv (pc + 3) st) : zV x ad ce n i lv pc (v :: .ref (ad t) :: st) := by
  obtain ⟨⟨p, l0, e, R, s⟩, ⟨m, args, below, meth, c⟩, ⟨D0, cl0, tys0⟩, A, Q⟩ := x
  obtain ⟨hexec, hb, hown, hts0, hK, hA, hlocks, hZ, hE1, hE⟩ := hx
  cases hE1
  cases hE
  have hts := fun w (h : w ∈ Ts) => zT.at hts0 h args
  intro H locs ls hH hS hl
  obtain ⟨hcl, hin, hty, hnm⟩ := hc
  have hap := va_apart (own := own) hts hin ty hty hnm hK hcl
  obtain ⟨⟨r, h1, cell, q1, q2, q3, q4⟩, hAt⟩ := hH.1 _ _ he
  have hr : r = (C, T, N) := Option.some.inj (h1.symm.trans hcl)
  subst hr
  obtain ⟨hSl, hfc, kC, hkC, hkind⟩ := hK.1 ci _ hcl
  obtain ⟨cf, kf, fi, f, hi, hsl⟩ := hSl j hj
  have hlay := hts _ (hin _ (u_in_lay hj))
  unfold u_lay at hlay
  rw [if_neg (by rw [hfin]; decide)] at hlay
  have hst := (u_facts hfc hkC (u_lays hts hin hj) hi).1
  have h6 := u_store hfc hkC hkind hlay hi (hty j hj) hn hfit
  refine va_WputK hexec hb (f := f) hown (hts _ hw) hi hst (by rw [q2]; exact h6) q1 q3 (by rw [hsl]; exact k2_hasslot (q4 j hj)) rfl rfl hd fun H' e1 e2 e3 => ?_
  rw [hsl] at e1 ⊢
  exact k H' _ ls ((hH.set (e := .inr (ci, fs.set j v)) he ⟨_, hcl, t_OB.to (V := updV (vp_V fs) j v) ⟨_, e1, q2, q3, t_set q4 hap hj v⟩ (fun j' _ => vp_updV_set hlen v j')⟩ e3).cong hce) (hS.put e2 e3 hAt) hl
/-- a final field, in its own constructor -/
theorem z_putF (hx : zOk x cc own Ts l D cl tys) {C : String} {T : u_T} {N ci index t : Nat} {ty : Nat → FieldType} {fs : List Value} {v : Value} (hc : zCl Ts cl ci C T N ty) (he : ce t = some (.inr (ci, fs))) (j : Nat) (hj : j < N) (hw : Cond.fieldLink own index (T j).1 (T j).2.1 (T j).2.2.1 ∈ Ts) (hfin : (T j).2.2.2 = true) (hinit : (zmeth x).name = "<init>") (hdecl : (T j).1 = own) (hn : narrow (ty j) v = v) (hfit : fits (ty j) v = true) (hlen : j < fs.length) (hd : decode cc pc = .ok (.putfield index, 3)) {ce1 : zW} (hce : ∀ u, ce1 u = z_up ce t (.inr (ci, fs.set j v)) u) (k : zV x ad ce1 n i lv (pc + 3) st) : zV x ad ce n i lv pc (v :: .ref (ad t) :: st) := by
  obtain ⟨⟨p, l0, e, R, s⟩, ⟨m, args, below, meth, c⟩, ⟨D0, cl0, tys0⟩, A, Q⟩ := x
  obtain ⟨hexec, hb, hown, hts0, hK, hA, hlocks, hZ, hE1, hE⟩ := hx
  cases hE1
  cases hE
  have hts := fun w (h : w ∈ Ts) => zT.at hts0 h args
  intro H locs ls hH hS hl
  obtain ⟨hcl, hin, hty, hnm⟩ := hc
  have hap := va_apart (own := own) hts hin ty hty hnm hK hcl
  obtain ⟨⟨r, h1, cell, q1, q2, q3, q4⟩, hAt⟩ := hH.1 _ _ he
  have hr : r = (C, T, N) := Option.some.inj (h1.symm.trans hcl)
  subst hr
  obtain ⟨hSl, hfc, kC, hkC, hkind⟩ := hK.1 ci _ hcl
  obtain ⟨cf, kf, fi, f, hi, hsl⟩ := hSl j hj
  have hlay := hts _ (hin _ (u_in_lay hj))
  unfold u_lay at hlay
  rw [if_pos hfin] at hlay
  have hst := (u_facts hfc hkC (u_lays hts hin hj) hi).1
  have hcf : m.cls = cf := by
    obtain ⟨_, _, c', _, _, _, -, -, hf', -, -, -, hown2, -⟩ := Cond.laysFinal_spec hlay
    have e1 : c' = cf := by have := hi.symm.trans hf'; simp at this; exact this.1.symm
    rw [hdecl] at hown2
    rw [← e1]; exact Option.some.inj (hown.symm.trans hown2)
  have h6 := u_fits hfc hkC hkind (Or.inr hlay) hi (hty j hj) hn hfit
  refine W.putFinK hexec hb hown (hts _ hw) hi hst hcf hinit (by rw [q2]; exact h6) q1 q3 (by rw [hsl]; exact k2_hasslot (q4 j hj)) rfl rfl hd fun H' e1 e2 e3 => ?_
  rw [hsl] at e1 ⊢
  exact k H' _ ls ((hH.set (e := .inr (ci, fs.set j v)) he ⟨_, hcl, t_OB.to (V := updV (vp_V fs) j v) ⟨_, e1, q2, q3, t_set q4 hap hj v⟩ (fun j' _ => vp_updV_set hlen v j')⟩ e3).cong hce) (hS.put e2 e3 hAt) hl
-- ===== arrays =====
theorem z_iald (hx : zOk x cc own Ts l D cl tys) {cA : ClassId} {N t : Nat} {f : Nat → Int32} (t0 : Nat) (ht : tys[t0]? = some (cA, .int)) (he : ce t = some (.inl (cA, N, .inl f))) {j : Int32} (hin : vp_in j N) (hd : decode cc pc = .ok (.iaload, 1)) (k : zV x ad ce n i lv (pc + 1) (.int (f j.toNatClampNeg) :: st)) : zV x ad ce n i lv pc (.int j :: .ref (ad t) :: st) := by
  obtain ⟨⟨p, l0, e, R, s⟩, ⟨m, args, below, meth, c⟩, ⟨D0, cl0, tys0⟩, A, Q⟩ := x
  obtain ⟨hexec, hb, hown, hts0, hK, hA, hlocks, hZ, hE1, hE⟩ := hx
  cases hE1
  cases hE
  intro H locs ls hH hS hl
  exact va_iald hexec hb hK (z_P1 (hH.1 _ _ he).1) 0 t0 rfl ht hin hd (k H locs ls hH hS hl)
theorem z_lald (hx : zOk x cc own Ts l D cl tys) {cA : ClassId} {N t : Nat} {f : Nat → Int64} (t0 : Nat) (ht : tys[t0]? = some (cA, .long)) (he : ce t = some (.inl (cA, N, .inr (.inl f)))) {j : Int32} (hin : vp_in j N) (hd : decode cc pc = .ok (.laload, 1)) (k : zV x ad ce n i lv (pc + 1) (.long (f j.toNatClampNeg) :: st)) : zV x ad ce n i lv pc (.int j :: .ref (ad t) :: st) := by
  obtain ⟨⟨p, l0, e, R, s⟩, ⟨m, args, below, meth, c⟩, ⟨D0, cl0, tys0⟩, A, Q⟩ := x
  obtain ⟨hexec, hb, hown, hts0, hK, hA, hlocks, hZ, hE1, hE⟩ := hx
  cases hE1
  cases hE
  intro H locs ls hH hS hl
  exact va_lald hexec hb hK (z_P1 (hH.1 _ _ he).1) 0 t0 rfl ht hin hd (k H locs ls hH hS hl)
theorem z_zald (hx : zOk x cc own Ts l D cl tys) {cA : ClassId} {N t : Nat} {f : Nat → Int32} (t0 : Nat) (ht : tys[t0]? = some (cA, .boolean)) (he : ce t = some (.inl (cA, N, .inl f))) {j : Int32} (hin : vp_in j N) (hd : decode cc pc = .ok (.baload, 1)) (k : zV x ad ce n i lv (pc + 1) (.int (f j.toNatClampNeg) :: st)) : zV x ad ce n i lv pc (.int j :: .ref (ad t) :: st) := by
  obtain ⟨⟨p, l0, e, R, s⟩, ⟨m, args, below, meth, c⟩, ⟨D0, cl0, tys0⟩, A, Q⟩ := x
  obtain ⟨hexec, hb, hown, hts0, hK, hA, hlocks, hZ, hE1, hE⟩ := hx
  cases hE1
  cases hE
  intro H locs ls hH hS hl
  exact va_zald hexec hb hK (z_P1 (hH.1 _ _ he).1) 0 t0 rfl ht hin hd (k H locs ls hH hS hl)
theorem z_aald (hx : zOk x cc own Ts l D cl tys) {cA : ClassId} {C : String} {N t : Nat} {f : Nat → Option Nat} (t0 : Nat) (ht : tys[t0]? = some (cA, .object C)) (he : ce t = some (.inl (cA, N, .inr (.inr (.inr (.inr f)))))) {j : Int32} (hin : vp_in j N) (hd : decode cc pc = .ok (.aaload, 1)) (k : zV x ad ce n i lv (pc + 1) (va_rf (f j.toNatClampNeg) :: st)) : zV x ad ce n i lv pc (.int j :: .ref (ad t) :: st) := by
  obtain ⟨⟨p, l0, e, R, s⟩, ⟨m, args, below, meth, c⟩, ⟨D0, cl0, tys0⟩, A, Q⟩ := x
  obtain ⟨hexec, hb, hown, hts0, hK, hA, hlocks, hZ, hE1, hE⟩ := hx
  cases hE1
  cases hE
  intro H locs ls hH hS hl
  exact va_aldq hexec hb hK (z_P1 (hH.1 _ _ he).1) 0 t0 rfl ht hin hd (k H locs ls hH hS hl)
theorem z_alen (hx : zOk x cc own Ts l D cl tys) {cA : ClassId} {t : Nat} {a : vp_A} {ty : FieldType} (t0 : Nat) (ht : tys[t0]? = some (cA, ty)) (he : ce t = some (.inl (cA, a))) {v : Int32} (hv : Int32.ofNat a.1 = v) (hd : decode cc pc = .ok (.arraylength, 1)) (k : zV x ad ce n i lv (pc + 1) (.int v :: st)) : zV x ad ce n i lv pc (.ref (ad t) :: st) := by
  obtain ⟨⟨p, l0, e, R, s⟩, ⟨m, args, below, meth, c⟩, ⟨D0, cl0, tys0⟩, A, Q⟩ := x
  obtain ⟨hexec, hb, hown, hts0, hK, hA, hlocks, hZ, hE1, hE⟩ := hx
  cases hE1
  cases hE
  intro H locs ls hH hS hl
  exact va_alen hexec hb hK (z_P1 (hH.1 _ _ he).1) 0 t0 rfl ht hv hd (k H locs ls hH hS hl)
theorem z_iast (hx : zOk x cc own Ts l D cl tys) {cA : ClassId} {N t : Nat} {f : Nat → Int32} (t0 : Nat) (ht : tys[t0]? = some (cA, .int)) (he : ce t = some (.inl (cA, N, .inl f))) {j v : Int32} (hin : vp_in j N) (hd : decode cc pc = .ok (.iastore, 1)) {ce1 : zW} (hce : ∀ u, ce1 u = z_up ce t (.inl (cA, N, .inl (upd f j.toNatClampNeg v))) u) (k : zV x ad ce1 n i lv (pc + 1) st) : zV x ad ce n i lv pc (.int v :: .int j :: .ref (ad t) :: st) := by
  obtain ⟨⟨p, l0, e, R, s⟩, ⟨m, args, below, meth, c⟩, ⟨D0, cl0, tys0⟩, A, Q⟩ := x
  obtain ⟨hexec, hb, hown, hts0, hK, hA, hlocks, hZ, hE1, hE⟩ := hx
  cases hE1
  cases hE
  intro H locs ls hH hS hl
  obtain ⟨h1, hAt⟩ := hH.1 _ _ he
  refine W.iast hexec hb h1 ((hK.2 t0 _ ht).1 N (fun j => .int (f j))) (fun q => by cases q) (by show ¬ (j < 0 ∨ (arrV _ _ _).slots.size ≤ _); rw [arrV_size]; exact hin) rfl rfl hd fun H1 e z oq => ?_
  refine k H1 _ ls ((hH.set he ?_ oq).cong hce) (hS.put z oq hAt) hl
  show H1[ad t]? = some (vp_cell _ _)
  rw [e]
  rw [vp_cell_i, vp_cell_i, arrV_store]
  congr 2
  funext q
  by_cases hq : q = j.toNatClampNeg
  · subst hq
    simp [updV, upd]
  · simp [updV, upd, hq]
theorem z_last (hx : zOk x cc own Ts l D cl tys) {cA : ClassId} {N t : Nat} {f : Nat → Int64} (t0 : Nat) (ht : tys[t0]? = some (cA, .long)) (he : ce t = some (.inl (cA, N, .inr (.inl f)))) {j : Int32} {v : Int64} (hin : vp_in j N) (hd : decode cc pc = .ok (.lastore, 1)) {ce1 : zW} (hce : ∀ u, ce1 u = z_up ce t (.inl (cA, N, .inr (.inl (vp_updL f j.toNatClampNeg v)))) u) (k : zV x ad ce1 n i lv (pc + 1) st) : zV x ad ce n i lv pc (.long v :: .int j :: .ref (ad t) :: st) := by
  obtain ⟨⟨p, l0, e, R, s⟩, ⟨m, args, below, meth, c⟩, ⟨D0, cl0, tys0⟩, A, Q⟩ := x
  obtain ⟨hexec, hb, hown, hts0, hK, hA, hlocks, hZ, hE1, hE⟩ := hx
  cases hE1
  cases hE
  intro H locs ls hH hS hl
  obtain ⟨h1, hAt⟩ := hH.1 _ _ he
  refine W.last hexec hb h1 ((hK.2 t0 _ ht).1 N (fun j => .long (f j))) (fun q => by cases q) (by show ¬ (j < 0 ∨ (arrV _ _ _).slots.size ≤ _); rw [arrV_size]; exact hin) rfl rfl hd fun H1 e z oq => ?_
  refine k H1 _ ls ((hH.set he ?_ oq).cong hce) (hS.put z oq hAt) hl
  show H1[ad t]? = some (vp_cell _ _)
  rw [e]
  rw [vp_cell_l, vp_cell_l, arrV_store]
  congr 2
  funext q
  by_cases hq : q = j.toNatClampNeg
  · subst hq
    simp [updV, vp_updL]
  · simp [updV, vp_updL, hq]
theorem z_aast (hx : zOk x cc own Ts l D cl tys) {cA : ClassId} {C : String} {T : u_T} {N N' ci t u : Nat} {ty : Nat → FieldType} {f : Nat → Option Nat} {vs : List Value} (t0 : Nat) (hc : zCl Ts cl ci C T N' ty) (ht : tys[t0]? = some (cA, .object C)) (he : ce t = some (.inl (cA, N, .inr (.inr (.inr (.inr f)))))) (hu : ce u = some (.inr (ci, vs))) {j : Int32} (hin : vp_in j N) (hd : decode cc pc = .ok (.aastore, 1)) {ce1 : zW} (hce : ∀ w, ce1 w = z_up ce t (.inl (cA, N, .inr (.inr (.inr (.inr (va_up f j.toNatClampNeg (some (ad u)))))))) w) (k : zV x ad ce1 n i lv (pc + 1) st) : zV x ad ce n i lv pc (.ref (ad u) :: .int j :: .ref (ad t) :: st) := by
  obtain ⟨⟨p, l0, e, R, s⟩, ⟨m, args, below, meth, c⟩, ⟨D0, cl0, tys0⟩, A, Q⟩ := x
  obtain ⟨hexec, hb, hown, hts0, hK, hA, hlocks, hZ, hE1, hE⟩ := hx
  cases hE1
  cases hE
  intro H locs ls hH hS hl
  obtain ⟨h1, hAt⟩ := hH.1 _ _ he
  have hlt : j.toNatClampNeg < N := Nat.not_le.mp fun q => hin (Or.inr q)
  have h0 : ¬ j < 0 := fun q => hin (Or.inl q)
  obtain ⟨r', hr', cellV, g1, g2, g3, -⟩ := (hH.1 _ _ hu).1
  have hcls := (hK.1 ci _ hc.1).2
  obtain ⟨kA, comp, k1, k2, k3, -⟩ := (hK.2 t0 _ ht).2
  have hcomp : comp = D.1 ci := Option.some.inj (k3.symm.trans hcls.1)
  subst hcomp
  obtain ⟨kC, hkC, -⟩ := hcls.2
  refine W.aast hexec hb h1 (fun q h => by cases h) (fun h => by cases h) k1 k2 rfl hkC ⟨h0, by show _ < (arrV _ _ _).slots.size; rw [arrV_size]; exact hlt⟩ g1 (fun q h => by rw [g3] at h; cases h) (by rw [g2]; exact hkC) (by rw [g2]; exact va_assign hcls) rfl rfl hd fun H1 e z oq => ?_
  refine k H1 _ ls ((hH.set he ?_ oq).cong hce) (hS.put z oq hAt) hl
  show H1[ad t]? = some (vp_cell _ _)
  rw [e]
  rw [vp_cell_q, vp_cell_q, arrV_store]
  congr 2
  funext q
  by_cases hq : q = j.toNatClampNeg
  · subst hq
    simp [updV, va_up, va_rf]
  · simp [updV, va_up, hq]
-- ===== new cells =====
theorem z_newa (hx : zOk x cc own Ts l D cl tys) {atype : ArrayType} {ty : FieldType} (hty : newarray.typeOf atype = ty) (t0 : Nat) {cA : ClassId} (ht : tys[t0]? = some (cA, ty)) (hprim : "[" ++ ty.toString ≠ "" ∧ ∀ C, ty ≠ .object C) (hw : Cond.arrayClass ty ∈ Ts) {t : Nat} (hfree : ce t = none) {j : Int32} {N : Nat} {a0 : vp_A} (ha : ∀ cA : ClassId, vp_cell cA a0 = arrV cA N (fun _ => defaultValue ty)) (hj : ¬ j < 0) (hN : j.toNatClampNeg = N) (hbytes : N * componentBytes ty ≤ 536870912) (hcells : n + 1 ≤ (zRm x).cells) (hslots : i + N ≤ (zRm x).slots) (hd : decode cc pc = .ok (.newarray atype, 2))
    (k : ∀ q : Nat, zV x (va_up ad t q) (z_up ce t (.inl (cA, a0))) (n + 1) (i + N) lv (pc + 2) (.ref q :: st)) : zV x ad ce n i lv pc (.int j :: st) := by
  obtain ⟨⟨p, l0, e, R, s⟩, ⟨m, args, below, meth, c⟩, ⟨D0, cl0, tys0⟩, A, Q⟩ := x
  obtain ⟨hexec, hb, hown, hts0, hK, hA, hlocks, hZ, hE1, hE⟩ := hx
  cases hE1
  cases hE
  have hts := fun w (h : w ∈ Ts) => zT.at hts0 h args
  intro H locs ls hH hS hl
  subst hty
  refine va_newaK hexec hb (hts _ hw) rfl hd rfl hj hN hbytes hcells hslots rfl fun H1 cA1 e1 z1 o1 hAr hNm => ?_
  have hcA : cA1 = cA := by
    have h2 := (hK.2 t0 _ ht).2
    have h3 : s.vm.findClass ("[" ++ (newarray.typeOf atype).toString) = some cA := by
      cases atype <;> exact h2
    exact Option.some.inj (hNm.symm.trans h3)
  subst hcA
  refine k H.size H1 locs ls (hH.new hfree ?_ (hA _ hS.1) o1) ⟨Nat.le_trans hS.1 (by omega), fun x h1 h2 => (o1 x (Nat.lt_of_lt_of_le h1 hS.1)).trans (hS.2.1 x h1 h2), hS.2.2⟩ hl
  show H1[H.size]? = some (vp_cell _ _)
  rw [ha]
  exact e1
theorem z_newq (hx : zOk x cc own Ts l D cl tys) {C : String} {index : Nat} (t0 : Nat) {cA : ClassId} (ht : tys[t0]? = some (cA, .object C)) (hw : Cond.classLink own index C ∈ Ts) (hw2 : Cond.arrayOver (.object C) ∈ Ts) {t : Nat} (hfree : ce t = none) {j : Int32} {N : Nat} (hj : ¬ j < 0) (hN : j.toNatClampNeg = N) (hbytes : N * 4 ≤ 536870912) (hcells : n + 1 ≤ (zRm x).cells) (hslots : i + N ≤ (zRm x).slots) (hd : decode cc pc = .ok (.anewarray index, 3))
    (k : ∀ q : Nat, zV x (va_up ad t q) (z_up ce t (.inl (cA, N, .inr (.inr (.inr (.inr (fun _ => none))))))) (n + 1) (i + N) lv (pc + 3) (.ref q :: st)) : zV x ad ce n i lv pc (.int j :: st) := by
  obtain ⟨⟨p, l0, e, R, s⟩, ⟨m, args, below, meth, c⟩, ⟨D0, cl0, tys0⟩, A, Q⟩ := x
  obtain ⟨hexec, hb, hown, hts0, hK, hA, hlocks, hZ, hE1, hE⟩ := hx
  cases hE1
  cases hE
  have hts := fun w (h : w ∈ Ts) => zT.at hts0 h args
  intro H locs ls hH hS hl
  subst hN
  refine W.anew hexec hb hown (hts _ hw) (hts _ hw2) rfl hd rfl hj hbytes hcells hslots fun cA1 kA comp f1 f2 f3 f4 => ?_
  obtain ⟨kA', comp', -, -, -, g4⟩ := (hK.2 t0 _ ht).2
  have hcA : cA1 = cA := Option.some.inj (f1.symm.trans g4)
  subst hcA
  generalize hH1 : H.push ({ cls := cA1, slots := Array.replicate j.toNatClampNeg .null, vm := .none } : Cell) = H1
  have z1 : H1.size = H.size + 1 := by rw [← hH1, Array.size_push]
  have e1 : H1[H.size]? = some (arrV cA1 j.toNatClampNeg (fun _ => .null)) := by rw [← hH1, Array.getElem?_push_size, ← arrV_new]
  have o1 : ∀ q : Nat, q < H.size → H1[q]? = H[q]? := fun q hq => by rw [← hH1, Array.getElem?_push, if_neg (Nat.ne_of_lt hq)]
  refine k H.size H1 locs ls (hH.new hfree ?_ (hA _ hS.1) o1) ⟨Nat.le_trans hS.1 (by omega), fun x h1 h2 => (o1 x (Nat.lt_of_lt_of_le h1 hS.1)).trans (hS.2.1 x h1 h2), hS.2.2⟩ hl
  show H1[H.size]? = some (vp_cell _ _)
  rw [vp_cell_q]
  exact e1
theorem z_new (hx : zOk x cc own Ts l D cl tys) {C : String} {T : u_T} {N ci index t : Nat} {ty : Nat → FieldType} {fs : List Value} (hc : zCl Ts cl ci C T N ty) (hw : Cond.classLink own index C ∈ Ts) (hw2 : Cond.instantiable C N ∈ Ts) (hw3 : Cond.initialized C ∈ Ts) (hfree : ce t = none) (hfs : ∀ j, j < N → defaultValue (ty j) = vp_V fs j) (hcells : n + 1 ≤ (zRm x).cells) (hslots : i + N ≤ (zRm x).slots) (hd : decode cc pc = .ok (.new index, 3))
    (k : ∀ q : Nat, zV x (va_up ad t q) (z_up ce t (.inr (ci, fs))) (n + 1) (i + N) lv (pc + 3) (.ref q :: st)) : zV x ad ce n i lv pc st := by
  obtain ⟨⟨p, l0, e, R, s⟩, ⟨m, args, below, meth, c⟩, ⟨D0, cl0, tys0⟩, A, Q⟩ := x
  obtain ⟨hexec, hb, hown, hts0, hK, hA, hlocks, hZ, hE1, hE⟩ := hx
  cases hE1
  cases hE
  have hts := fun w (h : w ∈ Ts) => zT.at hts0 h args
  intro H locs ls hH hS hl
  have hKn := hK.1 ci _ hc.1
  refine W.newcK hexec hb hown (hts _ hw) (hts _ hw2) (hts _ hw3) rfl hd hcells hslots hKn.2.1 rfl fun H1 kC hkC e1 z1 o1 => ?_
  exact k H.size H1 locs ls (hH.new hfree ⟨_, hc.1, (u_born ty hts hc.2.1 hKn hkC e1 hc.2.2.1).to hfs⟩ (hA _ hS.1) o1) ⟨Nat.le_trans hS.1 (by omega), fun x h1 h2 => (o1 x (Nat.lt_of_lt_of_le h1 hS.1)).trans (hS.2.1 x h1 h2), hS.2.2⟩ hl
theorem z_objInit (hx : zOk x cc own Ts l D cl tys) {index q : Nat} (hw : Cond.methodLink own index objectInit ∈ Ts) (hw2 : Cond.instanceMethod objectInit ∈ Ts) (hw3 : Cond.code objectInit ⟨#[0xb1]⟩ 1 none ∈ Ts) (hR : 1 ≤ (zRm x).frames) (hR2 : (st.map fun v => v.category).sum + 12 ≤ (zRm x).locals) (hd : decode cc pc = .ok (.invokespecial index, 3)) (k : zV x ad ce n i lv (pc + 3) st) : zV x ad ce n i lv pc (.ref q :: st) := by
  obtain ⟨⟨p, l0, e, R, s⟩, ⟨m, args, below, meth, c⟩, ⟨D0, cl0, tys0⟩, A, Q⟩ := x
  obtain ⟨hexec, hb, hown, hts0, hK, hA, hlocks, hZ, hE1, hE⟩ := hx
  cases hE1
  cases hE
  have hts := fun w (h : w ∈ Ts) => zT.at hts0 h args
  intro H locs ls hH hS hl
  refine W.objInit hexec hb hown (hts _ hw) (hts _ hw2) (hts _ hw3) rfl hl.1 rfl hd hR ?_ (k H locs ls hH hS hl)
  show 2 * 0 + (st.map fun v => v.category).sum + (1 + 11) ≤ _
  show 2 * 0 + (st.map fun v => v.category).sum + (1 + 11) ≤ R.locals
  have : (st.map fun v => v.category).sum + 12 ≤ R.locals := hR2
  omega
end ZR
end
section
-- ===== contracts =====
/-- how a method came back: it answered, or it threw an exception of that class -/
def zIs (o : Outcome) (r : Option Value ⊕ String) (t : State) : Prop := match o, r with
  | .returned v, .inl w => v = w
  | .threw a, .inr E => ∃ cell : Cell, t.heap[a]? = some cell ∧ cell.vm.isStatics = false ∧ t.vm.findClass E = some cell.cls
  | _, _ => False
abbrev zQ : Type := (Option Value ⊕ String) → (Nat → Nat) → zW → Prop
def zBack (D : va_G) (cl : List vw_C) (A : Nat → Prop) (s : State) (mc ms : Nat) (post : zQ) (o : Outcome) (t : State) : Prop :=
  (∃ (r : Option Value ⊕ String) (ad : Nat → Nat) (ce : zW), zIs o r t ∧ post r ad ce ∧ z_H D cl A ad ce t.heap) ∧ va_F A s t ∧ s.WarmedH t.vm ∧ ∃ L, s.sameButNew ({ t with vm := s.vm } : State) L mc ms ∧ ∀ q ∈ L, A q.base
def zEnd (D : va_G) (cl : List vw_C) (A : Nat → Prop) (s : State) (below : List Frame) (mc ms : Nat) (post : zQ) : State → Prop := fun t =>
  ∃ o, t.status = .running ∧ Ended t below o ∧ zBack D cl A s mc ms post o t
def zPre (Ts : List Cond) (D : va_G) (cl : List vw_C) (tys : List (ClassId × FieldType)) (ad : Nat → Nat) (ce : zW) (U : State) : Prop :=
  zT Ts U ∧ va_K D cl tys U ∧ z_H D cl (zA ad ce U.heap.size) ad ce U.heap ∧ zS (zA ad ce U.heap.size) U U.heap
/-- A CONTRACT over tagged worlds: the method y (whose code the word cw tells), called with av in the world (ad, ce), comes back as 'post' says -/
def zC (l : Launch) (Ts : List Cond) (D : va_G) (cl : List vw_C) (tys : List (ClassId × FieldType)) (y : MethodName) (cw : Cond) (rm : Room) (av : List Value) (ad : Nat → Nat) (ce : zW) (post : zQ) : Prop :=
  MetFree l y (headSpec [cw] rm) (fun a U => a = av.toArray ∧ zPre Ts D cl tys ad ce U) (fun _ _ _ _ _ => True) (fun _ s o t => zBack D cl (zA ad ce s.heap.size) s rm.cells rm.slots post o t)
/-- what a walk that ends may go out with -/
def zRet (x : zX) (mc ms : Nat) (post : zQ) : Prop := ∀ t, zEnd x.2.2.1.1 x.2.2.1.2.1 x.2.2.2.1 x.1.2.2.2.2 x.2.1.2.2.1 mc ms post t → x.2.2.2.2 t
/-- no handler covers anything -/
def zNH (x : zX) : Prop := ∀ pc : Nat, ∀ z ∈ x.2.1.2.2.2.2.exceptionTable.toList, covers z pc = false
theorem zC.of {l : Launch} {Ts : List Cond} {D : va_G} {cl : List vw_C} {tys : List (ClassId × FieldType)} {y : MethodName} {cc : ByteArray} {maxL : Nat} {ret : Option FieldType} {rm : Room} {av : List Value} {ad : Nat → Nat} {ce : zW} {post : zQ}
    (hy : plainName y.cls = true) (hlen : (lg_sl av).length ≤ maxL)
    (body : ∀ x : zX, zOk x cc y.cls Ts l D cl tys → (zmeth x).sig.returnType = ret → (zcode x).maxLocals = maxL → (zmeth x).name = y.name → zRm x = rm → zRet x rm.cells rm.slots post → zNH x → zV x ad ce 0 0 (lv_args 0 av) 0 []) :
    zC l Ts D cl tys y (.code y cc maxL ret) rm av ad ce post := by
  refine MetFree.of_bodyS (code := cc) (maxLocals := maxL) (ret := ret) hy ?_ ?_
  · intro args s m h hn
    obtain ⟨meth, c, h1, h2, h3, h4, h5, h6, -, -⟩ := Cond.code_spec hn (atoms_spec (ws := [Cond.code y cc maxL ret]) h _ List.mem_cons_self)
    exact ⟨meth, c, h1, h2, h3, h4, h5, h6⟩
  · intro p e s m args below meth c s₁ B hml hP _
    obtain ⟨rfl, hT, hK, hH, hZ⟩ := hP
    have hcw : (Cond.code y cc maxL ret).before av.toArray s = true := atoms_spec (ws := [Cond.code y cc maxL ret]) B.pre _ List.mem_cons_self
    have hh0 : s₁.heap = s.heap := by rw [B.state]; rfl
    have hv := body ((p, l, e, rm, s), (m, av.toArray, below, meth, c), (D, cl, tys), zA ad ce s.heap.size, zEnd D cl (zA ad ce s.heap.size) s below rm.cells rm.slots post)
      ⟨B.exec, B.bytes, findClass_of_methodNamed B.named, hT, hK, fun q h => Or.inr h, B.notSynchronized, hZ, rfl, rfl⟩ B.returns hml (name_of_methodNamed B.named B.method).1 rfl (fun t h => h) (fun pc => covers_of_empty (B.noHandlers hcw) pc)
    have hl := lv_entry av (n := maxL) hlen
    have hw := hv s.heap [] ((lg_sl av ++ List.replicate (maxL - (lg_sl av).length) Slot.unset).toArray) hH va_S.rf (by show lv_has _ c.maxLocals _; rw [hml]; exact hl)
    rw [← lg_entry_eq] at hw
    obtain ⟨t, a1, o, b1, b2, b3⟩ := hw s₁ hh0 (Stand.of_body B)
    exact ⟨t, o, a1, b1, b2, b3⟩
section ZE
variable {x : zX} {cc : ByteArray} {own : String} {Ts : List Cond} {l : Launch} {D : va_G} {cl : List vw_C} {tys : List (ClassId × FieldType)} {ad : Nat → Nat} {ce : zW} {n i pc mc ms : Nat} {lv : List (Nat × Value)} {st : List Value} {post : zQ}
theorem W_mono {p : Program} {e : Env} {R : Room} {s : State} {m : MethodId} {args : Array Value} {below : List Frame} {meth : Method} {c : Code} {H : Heap} {locs : List Loc} {n i : Nat} {Q1 Q2 : State → Prop} {g : JFrame} (h : ∀ t, Q1 t → Q2 t) (k : W p l e R s m args below meth c H locs n i Q1 g) : W p l e R s m args below meth c H locs n i Q2 g := fun T hT X => by
  obtain ⟨t, a, b⟩ := k T hT X
  exact ⟨t, a, h t b⟩
theorem z_iret (hx : zOk x cc own Ts l D cl tys) {ty : FieldType} (hr : (zmeth x).sig.returnType = some ty) {v : Int32} (hn : narrow ty (.int v) = .int v) (hq : zRet x mc ms post) (h1 : n ≤ mc) (h2 : i ≤ ms) (hd : decode cc pc = .ok (.ireturn, 1)) (hp : post (.inl (some (.int v))) ad ce) : zV x ad ce n i lv pc [.int v] := by
  obtain ⟨⟨p, l0, e, R, s⟩, ⟨m, args, below, meth, c⟩, ⟨D0, cl0, tys0⟩, A, Q⟩ := x
  obtain ⟨hexec, hb, hown, hts0, hK, hA, hlocks, hZ, hE1, hE⟩ := hx
  cases hE1
  cases hE
  intro H locs ls hH hS hl
  refine W.widen h1 h2 ?_
  refine W_mono ?_ (W.zret (Qc := fun _ _ o t => o = .returned (some (.int v)) ∧ t.heap = H) (free := A) hexec hb hr hn (fun t ht _ => ⟨rfl, ht⟩) hS.2.2 hd hlocks)
  rintro t ⟨o, g1, g2, ⟨rfl, ht⟩, L, ⟨-, hW, hs⟩, hL⟩
  exact hq t ⟨_, g1, g2, ⟨.inl (some (.int v)), ad, ce, rfl, hp, by rw [ht]; exact hH⟩, hS.F ht, hW, L, hs, hL⟩
theorem z_lret (hx : zOk x cc own Ts l D cl tys) (hr : (zmeth x).sig.returnType = some .long) {v : Int64} (hq : zRet x mc ms post) (h1 : n ≤ mc) (h2 : i ≤ ms) (hd : decode cc pc = .ok (.lreturn, 1)) (hp : post (.inl (some (.long v))) ad ce) : zV x ad ce n i lv pc [.long v] := by
  obtain ⟨⟨p, l0, e, R, s⟩, ⟨m, args, below, meth, c⟩, ⟨D0, cl0, tys0⟩, A, Q⟩ := x
  obtain ⟨hexec, hb, hown, hts0, hK, hA, hlocks, hZ, hE1, hE⟩ := hx
  cases hE1
  cases hE
  intro H locs ls hH hS hl
  refine W.widen h1 h2 ?_
  refine W_mono ?_ (W.lret (Qc := fun _ _ o t => o = .returned (some (.long v)) ∧ t.heap = H) (free := A) hexec hb hr (fun t ht _ => ⟨rfl, ht⟩) hS.2.2 hd hlocks)
  rintro t ⟨o, g1, g2, ⟨rfl, ht⟩, L, ⟨-, hW, hs⟩, hL⟩
  exact hq t ⟨_, g1, g2, ⟨.inl (some (.long v)), ad, ce, rfl, hp, by rw [ht]; exact hH⟩, hS.F ht, hW, L, hs, hL⟩
theorem z_vret (hx : zOk x cc own Ts l D cl tys) (hr : (zmeth x).sig.returnType = none) (hq : zRet x mc ms post) (h1 : n ≤ mc) (h2 : i ≤ ms) (hd : decode cc pc = .ok (.return_, 1)) (hp : post (.inl (none)) ad ce) : zV x ad ce n i lv pc [] := by
  obtain ⟨⟨p, l0, e, R, s⟩, ⟨m, args, below, meth, c⟩, ⟨D0, cl0, tys0⟩, A, Q⟩ := x
  obtain ⟨hexec, hb, hown, hts0, hK, hA, hlocks, hZ, hE1, hE⟩ := hx
  cases hE1
  cases hE
  intro H locs ls hH hS hl
  refine W.widen h1 h2 ?_
  refine W_mono ?_ (W.vret (Qc := fun _ _ o t => o = .returned none ∧ t.heap = H) (free := A) hexec hb hr (fun t ht _ => ⟨rfl, ht⟩) hS.2.2 hd hlocks)
  rintro t ⟨o, g1, g2, ⟨rfl, ht⟩, L, ⟨-, hW, hs⟩, hL⟩
  exact hq t ⟨_, g1, g2, ⟨.inl (none), ad, ce, rfl, hp, by rw [ht]; exact hH⟩, hS.F ht, hW, L, hs, hL⟩
theorem z_aret (hx : zOk x cc own Ts l D cl tys) {rt : FieldType} (hr : (zmeth x).sig.returnType = some rt) (hrt : (∃ n, rt = .object n) ∨ ∃ t, rt = .array t) {q : Nat} (hq : zRet x mc ms post) (h1 : n ≤ mc) (h2 : i ≤ ms) (hd : decode cc pc = .ok (.areturn, 1)) (hp : post (.inl (some (.ref q))) ad ce) : zV x ad ce n i lv pc [.ref q] := by
  obtain ⟨⟨p, l0, e, R, s⟩, ⟨m, args, below, meth, c⟩, ⟨D0, cl0, tys0⟩, A, Q⟩ := x
  obtain ⟨hexec, hb, hown, hts0, hK, hA, hlocks, hZ, hE1, hE⟩ := hx
  cases hE1
  cases hE
  intro H locs ls hH hS hl
  refine W.widen h1 h2 ?_
  refine W_mono ?_ (W.aret (Qc := fun _ _ o t => o = .returned (some (.ref q)) ∧ t.heap = H) (free := A) hexec hb hr hrt (Or.inr ⟨q, rfl⟩) (fun t ht _ => ⟨rfl, ht⟩) hS.2.2 hd hlocks)
  rintro t ⟨o, g1, g2, ⟨rfl, ht⟩, L, ⟨-, hW, hs⟩, hL⟩
  exact hq t ⟨_, g1, g2, ⟨.inl (some (.ref q)), ad, ce, rfl, hp, by rw [ht]; exact hH⟩, hS.F ht, hW, L, hs, hL⟩
/-- where a call lands -/
def zLand (T : State) (g : JFrame) (len : Nat) (o : Outcome) : State := match o with
  | .returned v => T.setTop { g with pc := g.pc + len, stack := v.toList ++ g.stack }
  | .threw a => (T.setTop g).pushFrame (.throwing a)
theorem z_call {p : Program} {e : Env} {R : Room} {s : State} {m : MethodId} {args : Array Value} {below : List Frame} {meth : Method} {c : Code} {T : State} {locs : List Loc} {A : Nat → Prop} {y : MethodName} {cb : ByteArray} {maxL : Nat} {ret : Option FieldType} {rm : Room} {av : List Value} {post' : zQ}
    (X : Stand p l e R s m args below meth c T locs n i) (hT : zT Ts s) (hK : va_K D cl tys s) (hA : ∀ q, s.heap.size ≤ q → A q) (hZ : zS A s s.heap) (hH : z_H D cl A ad ce T.heap) (hS : va_S A s.heap T.heap locs)
    (hM : zC l Ts D cl tys y (.code y cb maxL ret) rm av ad ce post') (hw : Cond.code y cb maxL ret ∈ Ts) (hw2 : Cond.initialized y.cls ∈ Ts)
    {g : JFrame} (hg : g.method = m) (hsize : g.locals.size = c.maxLocals) {ig : Instr} {len : Nat} (hdg : decode c.code g.pc = .ok (ig, len)) {mk : MethodId} (hn : T.methodNamed? y = some mk)
    (hframes : rm.frames + 1 ≤ R.frames) (hlocals : 2 * g.monitorRoom + (g.stack.map fun v => v.category).sum + (maxL + 11) + rm.locals ≤ R.locals) (hcells : n + rm.cells ≤ R.cells) (hslots : i + rm.slots ≤ R.slots) :
    ∃ (o : Outcome) (T' : State) (L : List Loc) (r : Option Value ⊕ String) (ad' : Nat → Nat) (ce' : zW), Stand p l e R s m args below meth c T' (locs ++ L) (n + rm.cells) (i + rm.slots) ∧ va_S A s.heap T'.heap (locs ++ L) ∧ z_H D cl A ad' ce' T'.heap ∧ zIs o r T' ∧ post' r ad' ce' ∧
      ∀ acts, Steps p.tables e below (doInvoke e (T.setTop g) acts mk av.toArray).1 (zLand T' g len o) := by
  have hTU : zT Ts T := hT.on X.warmed
  have h2 : (Cond.code y cb maxL ret).before av.toArray T = true := hTU.at hw _
  have h3 : (Cond.initialized y.cls).before av.toArray T = true := hTU.at hw2 _
  obtain ⟨methY, cY, hmY, hcY, -, hlY, -, -, -, -⟩ := Cond.code_spec hn h2
  obtain ⟨kY, hkY, -⟩ := className_of_methodNamed hn
  have hinitY : kY.init = .initialized := Cond.initialized_spec (findClass_of_methodNamed hn) hkY h3
  have h : At T g.method c below := by rw [hg]; exact X.here
  have happ : (headSpec [Cond.code y cb maxL ret] rm).appliesLoose y e.platform (T.calling g mk av.toArray) = true :=
    Spec.appliesLoose_calling (g := g) h hdg hn hkY hinitY
      (X.room_calling (g := g) (R' := rm) hsize hmY hcY hframes (by rw [hlY]; exact hlocals) hcells hslots) (atoms_intro (ws := [Cond.code y cb maxL ret]) (fun w hw' => by rw [List.mem_singleton.mp hw']; exact h2))
  obtain ⟨mid, hmid⟩ := h.above
  have hfr : (T.setTop g).frames = (.java g :: mid) ++ below := by rw [State.frames_setTop' g h.top, hmid]; rfl
  have hAA : ∀ q, zA ad ce T.heap.size q → A q := by
    intro q hq
    rcases hq with ⟨u, f, hu, rfl⟩ | hq
    · exact (hH.1 u f hu).2
    · exact hA q (Nat.le_trans hS.1 hq)
  have hH' : z_H D cl (zA ad ce T.heap.size) ad ce T.heap := ⟨fun t f ht => ⟨(hH.1 t f ht).1, Or.inl ⟨t, f, ht, rfl⟩⟩, hH.2⟩
  have hP : zPre Ts D cl tys ad ce (T.calling g mk av.toArray) :=
    ⟨hT.on (U := T.calling g mk av.toArray) X.warmed, va_K.moved (U := T.calling g mk av.toArray) X.warmed.alike hK, hH',
      zS.on (U := T.calling g mk av.toArray) X.warmed.alike hZ hS.2.1 hAA⟩
  obtain ⟨o, s₂, hsteps, -, hend, hq⟩ := Steps.callFree hM p X.admits X.cas X.clock (acts := []) hfr happ ⟨rfl, hP⟩ trivial
  have hst : ∀ acts, Steps p.tables e below (doInvoke e (T.setTop g) acts mk av.toArray).1 s₂ := fun acts => by rw [doInvoke_state]; exact hsteps
  rw [State.frames_setTop' g h.top, X.tail] at hend
  obtain ⟨⟨r, ad', ce', hr, hp, hz⟩, hF, hW₂, L, hsame, hL⟩ := hq
  have hSn : ∀ H1 : Heap, H1 = s₂.heap → va_S A s.heap H1 (locs ++ L) := by
    rintro H1 rfl
    refine ⟨Nat.le_trans hS.1 hF.1, fun q h1 h2 => ?_, fun q hq => ?_⟩
    · have hlt : q < T.heap.size := Nat.lt_of_lt_of_le h1 hS.1
      exact (hF.2 q hlt (fun z => h2 (hAA q z))).trans (hS.2.1 q h1 h2)
    · rcases List.mem_append.mp hq with h | h
      · exact hS.2.2 q h
      · exact hAA _ (hL q h)
  cases o with
  | returned v =>
    obtain ⟨T', X', hW', -, ht⟩ := X.outOf hg hdg hend hW₂ hsame
    have hh : T'.heap = s₂.heap := by rw [ht]; rfl
    refine ⟨.returned v, T', L, r, ad', ce', X', hSn _ hh, by rw [hh]; exact hz.weaken hAA, ?_, hp, fun acts => by rw [show zLand T' g len (.returned v) = s₂ from ht.symm]; exact hst acts⟩
    cases r with
    | inl w => exact hr
    | inr E => exact hr.elim
  | threw a =>
    obtain ⟨T', X', hW', -, ht⟩ := X.outOfThrown hg hend hW₂ hsame
    have hh : T'.heap = s₂.heap := by rw [ht]; rfl
    have hv : T'.vm = s₂.vm := by rw [ht]; rfl
    refine ⟨.threw a, T', L, r, ad', ce', X', hSn _ hh, by rw [hh]; exact hz.weaken hAA, ?_, hp, fun acts => by rw [show zLand T' g len (.threw a) = s₂ from ht.symm]; exact hst acts⟩
    cases r with
    | inl w => exact hr.elim
    | inr E =>
      obtain ⟨cell, g1, g2, g3⟩ := hr
      exact ⟨cell, by rw [hh]; exact g1, g2, by rw [hv]; exact g3⟩
/-- the words of a call: the callee's code and class; that its name is plain and so many numbers go in -/
def zWc (Ts : List Cond) (y : MethodName) (cb : ByteArray) (maxL : Nat) (ret : Option FieldType) (na : Nat) (own : Cond) : Prop :=
  (own ∈ Ts) ∧ Cond.code y cb maxL ret ∈ Ts ∧ Cond.initialized y.cls ∈ Ts ∧ (y.cls ≠ "java/lang/invoke/MethodHandle" ∧ y.cls ≠ "java/lang/invoke/VarHandle") ∧ (∀ sig, parseMethodDescriptor y.desc = some sig → na = sig.parameters.length)
theorem z_invV (hx : zOk x cc own Ts l D cl tys) {index na t ci N : Nat} {y : MethodName} {cb : ByteArray} {maxL : Nat} {ret : Option FieldType} {rm : Room} {As : List Value} {post' : zQ} {T : u_T} {ty : Nat → FieldType} {fs : List Value} (hc : zCl Ts cl ci y.cls T N ty) (he : ce t = some (.inr (ci, fs)))
    (hM : zC l Ts D cl tys y (.code y cb maxL ret) rm (.ref (ad t) :: As) ad ce post') (hg : zWc Ts y cb maxL ret na (Cond.methodLink own index y)) (hi : Cond.instanceMethod y ∈ Ts) (hse : Cond.selects y.cls y y ∈ Ts) (hlen : As.length = na) {st0 : List Value} (hst0 : As.reverse ++ .ref (ad t) :: st = st0) (hd : decode cc pc = .ok (.invokevirtual index, 3))
    (hR : rm.frames + 1 ≤ (zRm x).frames ∧ (st.map fun v => v.category).sum + (maxL + 11) + rm.locals ≤ (zRm x).locals ∧ n + rm.cells ≤ (zRm x).cells ∧ i + rm.slots ≤ (zRm x).slots) (hq : zRet x mc ms post) (h1 : n + rm.cells ≤ mc) (h2 : i + rm.slots ≤ ms) (hNH : zNH x)
    (k : ∀ v ad' ce', post' (.inl v) ad' ce' → zV x ad' ce' (n + rm.cells) (i + rm.slots) lv (pc + 3) (v.toList ++ st)) (kt : ∀ E ad' ce', post' (.inr E) ad' ce' → post (.inr E) ad' ce') : zV x ad ce n i lv pc st0 := by
  obtain ⟨⟨p, l0, e, R, s⟩, ⟨m, args, below, meth, c⟩, ⟨D0, cl0, tys0⟩, A, Q⟩ := x
  obtain ⟨hexec, hb, hown, hts0, hK, hA, hlocks, hZ, hE1, hE⟩ := hx
  cases hE1
  cases hE
  have hts := fun w (h : w ∈ Ts) => zT.at hts0 h args
  intro H locs ls hH hS hl T hT X
  subst hT
  subst hb
  subst hst0
  obtain ⟨⟨r', hr', cellB, g1, g2, g3, -⟩, -⟩ := hH.1 _ _ he
  have hclB : s.vm.findClass y.cls = some cellB.cls := by rw [g2]; exact (hK.1 ci _ hc.1).2.1
  obtain ⟨mk, methM, hnamed, hmethM, hstM, habM⟩ := Cond.instanceMethod_spec (hts _ hi)
  obtain ⟨methM', cM, hmethM', -, -, -, -, -, -, hsigM⟩ := Cond.code_spec hnamed (hts _ hg.2.1)
  cases hmethM.symm.trans hmethM'
  obtain ⟨c2, r2, m2, q1, q2, q3, q4, kP, hkP, hkPi⟩ := Cond.selects_spec (hts _ hse)
  cases hclB.symm.trans q1
  cases (State.methodFound?_of_named hnamed hg.2.2.2.1).symm.trans q2
  cases hnamed.symm.trans q3
  have hselP : selectMethod e.platform s.vm cellB.cls mk = .method mk := by rw [Launch.admits_selectMethod X.admits]; exact q4
  obtain ⟨vm₁, X₁, hstep₁⟩ := X.invokevirtual hexec hown (hts _ hg.1) hnamed hmethM hstM hkP hkPi hg.2.2.2.1 (a := ad t) (cell := cellB) g1
    (fun z h => by rw [g3] at h; cases h) hselP hmethM habM hkP hkPi (g := F0 m pc ls (As.reverse ++ .ref (ad t) :: st)) rfl (argsL := As) (rest := st) (hlen.trans (hg.2.2.2.2 _ hsigM)) rfl hd
  obtain ⟨o, T', L, r, ad', ce', X', hS', hH', hr, hp, hst⟩ := z_call X₁ hts0 hK hA hZ (T := T.setVm vm₁) hH hS hM hg.2.1 hg.2.2.1 (g := F0 m pc ls st) rfl hl.1 hd (X₁.named hnamed) hR.1 (by show 2 * 0 + _ + _ + _ ≤ _; have := hR.2.1; simp only [Nat.mul_zero, Nat.zero_add]; exact this) hR.2.2.1 hR.2.2.2
  cases o with
  | returned v =>
    cases r with
    | inr E => exact hr.elim
    | inl w =>
      obtain rfl : v = w := hr
      obtain ⟨t2, a1, b1⟩ := k v ad' ce' hp T'.heap (locs ++ L) ls hH' hS' hl T' rfl X'
      exact ⟨t2, hstep₁ _ fun acts => (hst acts).trans a1, b1⟩
  | threw a =>
    cases r with
    | inl w => exact hr.elim
    | inr E =>
      have hlocks : meth.locks = false := hlocks
      obtain ⟨w1, w2, w3, w4, w5⟩ := (stand_widen X' h1 h2).leaveThrown a (g := F0 m pc ls st) rfl rfl rfl (hNH pc)
      obtain ⟨cell, g1, g2, g3⟩ := hr
      exact ⟨_, hstep₁ _ fun acts => (hst acts).trans w1, hq _ ⟨.threw a, w2, w3, ⟨.inr E, ad', ce', ⟨cell, g1, g2, g3⟩, kt E ad' ce' hp, hH'⟩, hS'.F rfl, w4, _, w5, hS'.2.2⟩⟩
theorem z_invVN (hx : zOk x cc own Ts l D cl tys) {host : String} {index na t ci N : Nat} {y : MethodName} {cb : ByteArray} {maxL : Nat} {ret : Option FieldType} {rm : Room} {As : List Value} {post' : zQ} {T : u_T} {ty : Nat → FieldType} {fs : List Value} (hc : zCl Ts cl ci y.cls T N ty) (he : ce t = some (.inr (ci, fs)))
    (hM : zC l Ts D cl tys y (.code y cb maxL ret) rm (.ref (ad t) :: As) ad ce post') (hg : zWc Ts y cb maxL ret na (Cond.methodLinkNest own index y host)) (hi : Cond.instanceMethod y ∈ Ts) (hse : Cond.selects y.cls y y ∈ Ts) (hlen : As.length = na) {st0 : List Value} (hst0 : As.reverse ++ .ref (ad t) :: st = st0) (hd : decode cc pc = .ok (.invokevirtual index, 3))
    (hR : rm.frames + 1 ≤ (zRm x).frames ∧ (st.map fun v => v.category).sum + (maxL + 11) + rm.locals ≤ (zRm x).locals ∧ n + rm.cells ≤ (zRm x).cells ∧ i + rm.slots ≤ (zRm x).slots) (hq : zRet x mc ms post) (h1 : n + rm.cells ≤ mc) (h2 : i + rm.slots ≤ ms) (hNH : zNH x)
    (k : ∀ v ad' ce', post' (.inl v) ad' ce' → zV x ad' ce' (n + rm.cells) (i + rm.slots) lv (pc + 3) (v.toList ++ st)) (kt : ∀ E ad' ce', post' (.inr E) ad' ce' → post (.inr E) ad' ce') : zV x ad ce n i lv pc st0 := by
  obtain ⟨⟨p, l0, e, R, s⟩, ⟨m, args, below, meth, c⟩, ⟨D0, cl0, tys0⟩, A, Q⟩ := x
  obtain ⟨hexec, hb, hown, hts0, hK, hA, hlocks, hZ, hE1, hE⟩ := hx
  cases hE1
  cases hE
  have hts := fun w (h : w ∈ Ts) => zT.at hts0 h args
  intro H locs ls hH hS hl T hT X
  subst hT
  subst hb
  subst hst0
  obtain ⟨⟨r', hr', cellB, g1, g2, g3, -⟩, -⟩ := hH.1 _ _ he
  have hclB : s.vm.findClass y.cls = some cellB.cls := by rw [g2]; exact (hK.1 ci _ hc.1).2.1
  obtain ⟨mk, methM, hnamed, hmethM, hstM, habM⟩ := Cond.instanceMethod_spec (hts _ hi)
  obtain ⟨methM', cM, hmethM', -, -, -, -, -, -, hsigM⟩ := Cond.code_spec hnamed (hts _ hg.2.1)
  cases hmethM.symm.trans hmethM'
  obtain ⟨c2, r2, m2, q1, q2, q3, q4, kP, hkP, hkPi⟩ := Cond.selects_spec (hts _ hse)
  cases hclB.symm.trans q1
  cases (State.methodFound?_of_named hnamed hg.2.2.2.1).symm.trans q2
  cases hnamed.symm.trans q3
  have hselP : selectMethod e.platform s.vm cellB.cls mk = .method mk := by rw [Launch.admits_selectMethod X.admits]; exact q4
  obtain ⟨vm₁, X₁, hstep₁⟩ := X.invokevirtualNest hexec hown (hts _ hg.1) hnamed hmethM hstM hkP hkPi hg.2.2.2.1 (a := ad t) (cell := cellB) g1
    (fun z h => by rw [g3] at h; cases h) hselP hmethM habM hkP hkPi (g := F0 m pc ls (As.reverse ++ .ref (ad t) :: st)) rfl (argsL := As) (rest := st) (hlen.trans (hg.2.2.2.2 _ hsigM)) rfl hd
  obtain ⟨o, T', L, r, ad', ce', X', hS', hH', hr, hp, hst⟩ := z_call X₁ hts0 hK hA hZ (T := T.setVm vm₁) hH hS hM hg.2.1 hg.2.2.1 (g := F0 m pc ls st) rfl hl.1 hd (X₁.named hnamed) hR.1 (by show 2 * 0 + _ + _ + _ ≤ _; have := hR.2.1; simp only [Nat.mul_zero, Nat.zero_add]; exact this) hR.2.2.1 hR.2.2.2
  cases o with
  | returned v =>
    cases r with
    | inr E => exact hr.elim
    | inl w =>
      obtain rfl : v = w := hr
      obtain ⟨t2, a1, b1⟩ := k v ad' ce' hp T'.heap (locs ++ L) ls hH' hS' hl T' rfl X'
      exact ⟨t2, hstep₁ _ fun acts => (hst acts).trans a1, b1⟩
  | threw a =>
    cases r with
    | inl w => exact hr.elim
    | inr E =>
      have hlocks : meth.locks = false := hlocks
      obtain ⟨w1, w2, w3, w4, w5⟩ := (stand_widen X' h1 h2).leaveThrown a (g := F0 m pc ls st) rfl rfl rfl (hNH pc)
      obtain ⟨cell, g1, g2, g3⟩ := hr
      exact ⟨_, hstep₁ _ fun acts => (hst acts).trans w1, hq _ ⟨.threw a, w2, w3, ⟨.inr E, ad', ce', ⟨cell, g1, g2, g3⟩, kt E ad' ce' hp, hH'⟩, hS'.F rfl, w4, _, w5, hS'.2.2⟩⟩
theorem z_invS (hx : zOk x cc own Ts l D cl tys) {index na : Nat} {y : MethodName} {cb : ByteArray} {maxL : Nat} {ret : Option FieldType} {rm : Room} {As : List Value} {post' : zQ}
    (hM : zC l Ts D cl tys y (.code y cb maxL ret) rm As ad ce post') (hg : zWc Ts y cb maxL ret na (Cond.methodLink own index y)) (hi : Cond.static y ∈ Ts) (hlen : As.length = na) {st0 : List Value} (hst0 : As.reverse ++ st = st0) (hd : decode cc pc = .ok (.invokestatic index, 3))
    (hR : rm.frames + 1 ≤ (zRm x).frames ∧ (st.map fun v => v.category).sum + (maxL + 11) + rm.locals ≤ (zRm x).locals ∧ n + rm.cells ≤ (zRm x).cells ∧ i + rm.slots ≤ (zRm x).slots) (hq : zRet x mc ms post) (h1 : n + rm.cells ≤ mc) (h2 : i + rm.slots ≤ ms) (hNH : zNH x)
    (k : ∀ v ad' ce', post' (.inl v) ad' ce' → zV x ad' ce' (n + rm.cells) (i + rm.slots) lv (pc + 3) (v.toList ++ st)) (kt : ∀ E ad' ce', post' (.inr E) ad' ce' → post (.inr E) ad' ce') : zV x ad ce n i lv pc st0 := by
  obtain ⟨⟨p, l0, e, R, s⟩, ⟨m, args, below, meth, c⟩, ⟨D0, cl0, tys0⟩, A, Q⟩ := x
  obtain ⟨hexec, hb, hown, hts0, hK, hA, hlocks, hZ, hE1, hE⟩ := hx
  cases hE1
  cases hE
  have hts := fun w (h : w ∈ Ts) => zT.at hts0 h args
  intro H locs ls hH hS hl T hT X
  subst hT
  subst hb
  subst hst0
  obtain ⟨mk, hnamed⟩ := Cond.code_named (hts _ hg.2.1)
  obtain ⟨methM, cM, hmethM, -, -, -, -, -, -, hsigM⟩ := Cond.code_spec hnamed (hts _ hg.2.1)
  have hstatic : methM.isStatic = true := Cond.static_spec hnamed hmethM (hts _ hi)
  obtain ⟨kP, hkP, -⟩ := className_of_methodNamed hnamed
  have hinitP : kP.init = .initialized := Cond.initialized_spec (findClass_of_methodNamed hnamed) hkP (hts _ hg.2.2.1)
  obtain ⟨vm₁, X₁, hstep₁⟩ := X.invokestatic hexec hown (hts _ hg.1) hnamed hmethM hstatic hkP hinitP hg.2.2.2.1 (g := F0 m pc ls (As.reverse ++ st)) rfl (argsL := As) (rest := st) (hlen.trans (hg.2.2.2.2 _ hsigM)) rfl hd
  obtain ⟨o, T', L, r, ad', ce', X', hS', hH', hr, hp, hst⟩ := z_call X₁ hts0 hK hA hZ (T := T.setVm vm₁) hH hS hM hg.2.1 hg.2.2.1 (g := F0 m pc ls st) rfl hl.1 hd (X₁.named hnamed) hR.1 (by show 2 * 0 + _ + _ + _ ≤ _; have := hR.2.1; simp only [Nat.mul_zero, Nat.zero_add]; exact this) hR.2.2.1 hR.2.2.2
  cases o with
  | returned v =>
    cases r with
    | inr E => exact hr.elim
    | inl w =>
      obtain rfl : v = w := hr
      obtain ⟨t2, a1, b1⟩ := k v ad' ce' hp T'.heap (locs ++ L) ls hH' hS' hl T' rfl X'
      exact ⟨t2, hstep₁ _ fun acts => (hst acts).trans a1, b1⟩
  | threw a =>
    cases r with
    | inl w => exact hr.elim
    | inr E =>
      have hlocks : meth.locks = false := hlocks
      obtain ⟨w1, w2, w3, w4, w5⟩ := (stand_widen X' h1 h2).leaveThrown a (g := F0 m pc ls st) rfl rfl rfl (hNH pc)
      obtain ⟨cell, g1, g2, g3⟩ := hr
      exact ⟨_, hstep₁ _ fun acts => (hst acts).trans w1, hq _ ⟨.threw a, w2, w3, ⟨.inr E, ad', ce', ⟨cell, g1, g2, g3⟩, kt E ad' ce' hp, hH'⟩, hS'.F rfl, w4, _, w5, hS'.2.2⟩⟩
theorem z_invSN (hx : zOk x cc own Ts l D cl tys) {host : String} {index na : Nat} {y : MethodName} {cb : ByteArray} {maxL : Nat} {ret : Option FieldType} {rm : Room} {As : List Value} {post' : zQ}
    (hM : zC l Ts D cl tys y (.code y cb maxL ret) rm As ad ce post') (hg : zWc Ts y cb maxL ret na (Cond.methodLinkNest own index y host)) (hi : Cond.static y ∈ Ts) (hlen : As.length = na) {st0 : List Value} (hst0 : As.reverse ++ st = st0) (hd : decode cc pc = .ok (.invokestatic index, 3))
    (hR : rm.frames + 1 ≤ (zRm x).frames ∧ (st.map fun v => v.category).sum + (maxL + 11) + rm.locals ≤ (zRm x).locals ∧ n + rm.cells ≤ (zRm x).cells ∧ i + rm.slots ≤ (zRm x).slots) (hq : zRet x mc ms post) (h1 : n + rm.cells ≤ mc) (h2 : i + rm.slots ≤ ms) (hNH : zNH x)
    (k : ∀ v ad' ce', post' (.inl v) ad' ce' → zV x ad' ce' (n + rm.cells) (i + rm.slots) lv (pc + 3) (v.toList ++ st)) (kt : ∀ E ad' ce', post' (.inr E) ad' ce' → post (.inr E) ad' ce') : zV x ad ce n i lv pc st0 := by
  obtain ⟨⟨p, l0, e, R, s⟩, ⟨m, args, below, meth, c⟩, ⟨D0, cl0, tys0⟩, A, Q⟩ := x
  obtain ⟨hexec, hb, hown, hts0, hK, hA, hlocks, hZ, hE1, hE⟩ := hx
  cases hE1
  cases hE
  have hts := fun w (h : w ∈ Ts) => zT.at hts0 h args
  intro H locs ls hH hS hl T hT X
  subst hT
  subst hb
  subst hst0
  obtain ⟨mk, hnamed⟩ := Cond.code_named (hts _ hg.2.1)
  obtain ⟨methM, cM, hmethM, -, -, -, -, -, -, hsigM⟩ := Cond.code_spec hnamed (hts _ hg.2.1)
  have hstatic : methM.isStatic = true := Cond.static_spec hnamed hmethM (hts _ hi)
  obtain ⟨kP, hkP, -⟩ := className_of_methodNamed hnamed
  have hinitP : kP.init = .initialized := Cond.initialized_spec (findClass_of_methodNamed hnamed) hkP (hts _ hg.2.2.1)
  obtain ⟨vm₁, X₁, hstep₁⟩ := X.invokestaticNest hexec hown (hts _ hg.1) hnamed hmethM hstatic hkP hinitP hg.2.2.2.1 (g := F0 m pc ls (As.reverse ++ st)) rfl (argsL := As) (rest := st) (hlen.trans (hg.2.2.2.2 _ hsigM)) rfl hd
  obtain ⟨o, T', L, r, ad', ce', X', hS', hH', hr, hp, hst⟩ := z_call X₁ hts0 hK hA hZ (T := T.setVm vm₁) hH hS hM hg.2.1 hg.2.2.1 (g := F0 m pc ls st) rfl hl.1 hd (X₁.named hnamed) hR.1 (by show 2 * 0 + _ + _ + _ ≤ _; have := hR.2.1; simp only [Nat.mul_zero, Nat.zero_add]; exact this) hR.2.2.1 hR.2.2.2
  cases o with
  | returned v =>
    cases r with
    | inr E => exact hr.elim
    | inl w =>
      obtain rfl : v = w := hr
      obtain ⟨t2, a1, b1⟩ := k v ad' ce' hp T'.heap (locs ++ L) ls hH' hS' hl T' rfl X'
      exact ⟨t2, hstep₁ _ fun acts => (hst acts).trans a1, b1⟩
  | threw a =>
    cases r with
    | inl w => exact hr.elim
    | inr E =>
      have hlocks : meth.locks = false := hlocks
      obtain ⟨w1, w2, w3, w4, w5⟩ := (stand_widen X' h1 h2).leaveThrown a (g := F0 m pc ls st) rfl rfl rfl (hNH pc)
      obtain ⟨cell, g1, g2, g3⟩ := hr
      exact ⟨_, hstep₁ _ fun acts => (hst acts).trans w1, hq _ ⟨.threw a, w2, w3, ⟨.inr E, ad', ce', ⟨cell, g1, g2, g3⟩, kt E ad' ce' hp, hH'⟩, hS'.F rfl, w4, _, w5, hS'.2.2⟩⟩
theorem z_invI (hx : zOk x cc own Ts l D cl tys) {index na q : Nat} {y : MethodName} {cb : ByteArray} {maxL : Nat} {rm : Room} {As : List Value} {post' : zQ}
    (hM : zC l Ts D cl tys y (.code y cb maxL none) rm (.ref q :: As) ad ce post') (hg : zWc Ts y cb maxL none na (Cond.methodLink own index y)) (hi : Cond.instanceMethod y ∈ Ts) (hy1 : y.name = "<init>") (hlen : As.length = na) {st0 : List Value} (hst0 : As.reverse ++ .ref q :: st = st0) (hd : decode cc pc = .ok (.invokespecial index, 3))
    (hR : rm.frames + 1 ≤ (zRm x).frames ∧ (st.map fun v => v.category).sum + (maxL + 11) + rm.locals ≤ (zRm x).locals ∧ n + rm.cells ≤ (zRm x).cells ∧ i + rm.slots ≤ (zRm x).slots) (hq : zRet x mc ms post) (h1 : n + rm.cells ≤ mc) (h2 : i + rm.slots ≤ ms) (hNH : zNH x)
    (k : ∀ v ad' ce', post' (.inl v) ad' ce' → zV x ad' ce' (n + rm.cells) (i + rm.slots) lv (pc + 3) (v.toList ++ st)) (kt : ∀ E ad' ce', post' (.inr E) ad' ce' → post (.inr E) ad' ce') : zV x ad ce n i lv pc st0 := by
  obtain ⟨⟨p, l0, e, R, s⟩, ⟨m, args, below, meth, c⟩, ⟨D0, cl0, tys0⟩, A, Q⟩ := x
  obtain ⟨hexec, hb, hown, hts0, hK, hA, hlocks, hZ, hE1, hE⟩ := hx
  cases hE1
  cases hE
  have hts := fun w (h : w ∈ Ts) => zT.at hts0 h args
  intro H locs ls hH hS hl T hT X
  subst hT
  subst hb
  subst hst0
  have hpl : e.platform.magicAccessors = ({} : Platform).magicAccessors := by rw [X.admits.platform]
  obtain ⟨mk, methM, cM, kP, vm₁, hnamed, hmethM, hcodeM, -, hlocalsM, -, hkP, -, hW₁, hstep₁⟩ := Steps.initColdArgs (e := e) X.here hexec X.warmed hpl hown hy1 hg.2.2.2.1 (hts _ hg.1) (hts _ hi) (hts _ hg.2.1) (f := F0 m pc ls (As.reverse ++ .ref q :: st)) rfl (fun sig h => hlen.trans (hg.2.2.2.2 _ h)) rfl hd
  have X₁ := X.noted hW₁
  obtain ⟨o, T', L, r, ad', ce', X', hS', hH', hr, hp, hst⟩ := z_call X₁ hts0 hK hA hZ (T := T.setVm vm₁) hH hS hM hg.2.1 hg.2.2.1 (g := F0 m pc ls st) rfl hl.1 hd (X₁.named hnamed) hR.1 (by show 2 * 0 + _ + _ + _ ≤ _; have := hR.2.1; simp only [Nat.mul_zero, Nat.zero_add]; exact this) hR.2.2.1 hR.2.2.2
  cases o with
  | returned v =>
    cases r with
    | inr E => exact hr.elim
    | inl w =>
      obtain rfl : v = w := hr
      obtain ⟨t2, a1, b1⟩ := k v ad' ce' hp T'.heap (locs ++ L) ls hH' hS' hl T' rfl X'
      exact ⟨t2, hstep₁ _ fun acts => (hst acts).trans a1, b1⟩
  | threw a =>
    cases r with
    | inl w => exact hr.elim
    | inr E =>
      have hlocks : meth.locks = false := hlocks
      obtain ⟨w1, w2, w3, w4, w5⟩ := (stand_widen X' h1 h2).leaveThrown a (g := F0 m pc ls st) rfl rfl rfl (hNH pc)
      obtain ⟨cell, g1, g2, g3⟩ := hr
      exact ⟨_, hstep₁ _ fun acts => (hst acts).trans w1, hq _ ⟨.threw a, w2, w3, ⟨.inr E, ad', ce', ⟨cell, g1, g2, g3⟩, kt E ad' ce' hp, hH'⟩, hS'.F rfl, w4, _, w5, hS'.2.2⟩⟩
theorem z_invIN (hx : zOk x cc own Ts l D cl tys) {host : String} {index na q : Nat} {y : MethodName} {cb : ByteArray} {maxL : Nat} {rm : Room} {As : List Value} {post' : zQ}
    (hM : zC l Ts D cl tys y (.code y cb maxL none) rm (.ref q :: As) ad ce post') (hg : zWc Ts y cb maxL none na (Cond.methodLinkNest own index y host)) (hi : Cond.instanceMethod y ∈ Ts) (hy1 : y.name = "<init>") (hlen : As.length = na) {st0 : List Value} (hst0 : As.reverse ++ .ref q :: st = st0) (hd : decode cc pc = .ok (.invokespecial index, 3))
    (hR : rm.frames + 1 ≤ (zRm x).frames ∧ (st.map fun v => v.category).sum + (maxL + 11) + rm.locals ≤ (zRm x).locals ∧ n + rm.cells ≤ (zRm x).cells ∧ i + rm.slots ≤ (zRm x).slots) (hq : zRet x mc ms post) (h1 : n + rm.cells ≤ mc) (h2 : i + rm.slots ≤ ms) (hNH : zNH x)
    (k : ∀ v ad' ce', post' (.inl v) ad' ce' → zV x ad' ce' (n + rm.cells) (i + rm.slots) lv (pc + 3) (v.toList ++ st)) (kt : ∀ E ad' ce', post' (.inr E) ad' ce' → post (.inr E) ad' ce') : zV x ad ce n i lv pc st0 := by
  obtain ⟨⟨p, l0, e, R, s⟩, ⟨m, args, below, meth, c⟩, ⟨D0, cl0, tys0⟩, A, Q⟩ := x
  obtain ⟨hexec, hb, hown, hts0, hK, hA, hlocks, hZ, hE1, hE⟩ := hx
  cases hE1
  cases hE
  have hts := fun w (h : w ∈ Ts) => zT.at hts0 h args
  intro H locs ls hH hS hl T hT X
  subst hT
  subst hb
  subst hst0
  have hpl : e.platform.magicAccessors = ({} : Platform).magicAccessors := by rw [X.admits.platform]
  obtain ⟨mk, methM, cM, kP, vm₁, hnamed, hmethM, hcodeM, -, hlocalsM, -, hkP, -, hW₁, hstep₁⟩ := Steps.initColdArgsNest (e := e) X.here hexec X.warmed hpl hown hy1 hg.2.2.2.1 (hts _ hg.1) (hts _ hi) (hts _ hg.2.1) (f := F0 m pc ls (As.reverse ++ .ref q :: st)) rfl (fun sig h => hlen.trans (hg.2.2.2.2 _ h)) rfl hd
  have X₁ := X.noted hW₁
  obtain ⟨o, T', L, r, ad', ce', X', hS', hH', hr, hp, hst⟩ := z_call X₁ hts0 hK hA hZ (T := T.setVm vm₁) hH hS hM hg.2.1 hg.2.2.1 (g := F0 m pc ls st) rfl hl.1 hd (X₁.named hnamed) hR.1 (by show 2 * 0 + _ + _ + _ ≤ _; have := hR.2.1; simp only [Nat.mul_zero, Nat.zero_add]; exact this) hR.2.2.1 hR.2.2.2
  cases o with
  | returned v =>
    cases r with
    | inr E => exact hr.elim
    | inl w =>
      obtain rfl : v = w := hr
      obtain ⟨t2, a1, b1⟩ := k v ad' ce' hp T'.heap (locs ++ L) ls hH' hS' hl T' rfl X'
      exact ⟨t2, hstep₁ _ fun acts => (hst acts).trans a1, b1⟩
  | threw a =>
    cases r with
    | inl w => exact hr.elim
    | inr E =>
      have hlocks : meth.locks = false := hlocks
      obtain ⟨w1, w2, w3, w4, w5⟩ := (stand_widen X' h1 h2).leaveThrown a (g := F0 m pc ls st) rfl rfl rfl (hNH pc)
      obtain ⟨cell, g1, g2, g3⟩ := hr
      exact ⟨_, hstep₁ _ fun acts => (hst acts).trans w1, hq _ ⟨.threw a, w2, w3, ⟨.inr E, ad', ce', ⟨cell, g1, g2, g3⟩, kt E ad' ce' hp, hH'⟩, hS'.F rfl, w4, _, w5, hS'.2.2⟩⟩
end ZE
end
section
-- ===== throwing and catching =====
section ZT
variable {x : zX} {cc : ByteArray} {own : String} {Ts : List Cond} {l : Launch} {D : va_G} {cl : List vw_C} {tys : List (ClassId × FieldType)} {ad : Nat → Nat} {ce : zW} {n i pc mc ms : Nat} {lv : List (Nat × Value)} {st : List Value} {post : zQ}
/-- the words of 'throw new E()' at a place: link of the name, of the constructor, the chain above -/
def zWt (Ts : List Cond) (own : String) (ik ic : Nat) (E : String) : Prop := Bundle.fit E = true ∧ Cond.classLink own ik E ∈ Ts ∧ Cond.initialized E ∈ Ts ∧ (∀ w ∈ vx_at0 own ic E ["java/lang/RuntimeException", "java/lang/Exception"], w ∈ Ts) ∧ (∀ w ∈ Cond.classLink own ik E :: Cond.initialized E :: vx_at0 own ic E ["java/lang/RuntimeException", "java/lang/Exception"], vx_ot w = true)
theorem z_throw (hx : zOk x cc own Ts l D cl tys) (htr : l.stackTraces = false) {E : String} {ik ic : Nat} (hw : zWt Ts own ik ic E) (hq : zRet x mc ms post) (h1 : n + 1 ≤ mc) (h2 : i + 6 ≤ ms) (hNH : zNH x) (hR : 5 < (zRm x).frames ∧ (st.map fun v => v.category).sum + 81 ≤ (zRm x).locals ∧ n + 1 ≤ (zRm x).cells ∧ i + 6 ≤ (zRm x).slots)
    (d0 : decode cc pc = .ok (.new ik, 3)) (d3 : decode cc (pc + 3) = .ok (.dup, 1)) (d4 : decode cc (pc + 4) = .ok (.invokespecial ic, 3)) (d7 : decode cc (pc + 7) = .ok (.athrow, 1)) (hp : post (.inr E) ad ce) : zV x ad ce n i lv pc st := by
  obtain ⟨⟨p, l0, e, R, s⟩, ⟨m, args, below, meth, c⟩, ⟨D0, cl0, tys0⟩, A, Q⟩ := x
  obtain ⟨hexec, hb, hown, hts0, hK, hA, hlocks, hZ, hE1, hE⟩ := hx
  cases hE1
  cases hE
  have hts := fun w (h : w ∈ Ts) => zT.at hts0 h args
  intro H locs ls hH hS hl
  refine W_mono ?_ (vx_throw0 (Qc := fun _ _ _ _ => False) (XC := fun E' s' t => E' = E ∧ z_H D cl A ad ce t.heap ∧ va_F A s' t) (free := A) (A := A) hexec hb htr hown hw.1 (by decide +kernel) (hts _ hw.2.1) (hts _ hw.2.2.1) (fun w h => hts w (hw.2.2.2.1 w h)) hw.2.2.2.2 hZ.1 hZ.2 hS hl.1 d0 d3 d4 d7 (hNH (pc + 7)) hR.1 hR.2.1 hR.2.2.1 hR.2.2.2 hlocks
    (fun t hal hsz hq' => ⟨rfl, hH.kept hq', ⟨Nat.le_trans hS.1 hsz, fun q h1 h2 => (hq' q (Nat.lt_of_lt_of_le h1 hS.1)).trans (hS.2.1 q h1 h2)⟩⟩) hS.2.2 h1 h2)
  rintro t ⟨o, g1, g2, g3⟩
  rcases g3 with ⟨g4, -⟩ | ⟨q, rfl, E', cell, L, ⟨rfl, hz, hF⟩, hc1, hc2, hc3, hW, hs, hL⟩
  · exact g4.elim
  · exact hq t ⟨_, g1, g2, ⟨.inr E', ad, ce, ⟨cell, hc1, by rw [hc2]; rfl, by rw [hW.alike.findClass]; exact hc3⟩, hp, hz⟩, hF, hW, L, hs, hL⟩
end ZT
end
section
/-! the tables' words that stay true for good, by their places -/
def zg (w : Cond) : Bool := match w with
  | .fieldLinkNest .. => true
  | .methodLinkNest .. => true
  | .declares _ => true
  | .castable .. => true
  | .arrayOver (.object _) => true
  | w => goodWord w
def TB : List Cond := lw_tbl.filter zg
theorem zg_on {args a' : Array Value} {s U : State} {w : Cond} (hg : zg w = true) (hW : s.WarmedH U.vm) (h : w.before args s = true) : w.before a' U = true := by
  unfold zg at hg
  split at hg
  · exact va_Nw.use rfl (va_Nw.warmF hW (va_Nw.of rfl h))
  · exact va_Nw.use rfl (va_Nw.warmM hW (va_Nw.of rfl h))
  · exact va_Nw.use rfl (va_Nw.warmD hW (va_Nw.of rfl h))
  · exact va_Nw.use rfl (va_Nw.warmC hW (va_Nw.of rfl h))
  · exact va_AO.use (va_AO.moved hW.alike (va_AO.of h))
  · exact word_at hW (good_of_word hg) h
theorem zT_tbl {args : Array Value} {s : State} (hts : ∀ w ∈ lw_tbl, w.before args s = true) : zT TB s := fun w hw a' U hW => by
  obtain ⟨h1, h2⟩ := List.mem_filter.mp hw
  exact zg_on h2 hW (hts w h1)
theorem TB_1 {w : Cond} {i : Nat} (h : tables_1_1[i]? = some w) (hg : zg w = true) : w ∈ TB := List.mem_filter.mpr ⟨List.mem_append_right _ (List.mem_append_left _ (List.mem_of_getElem? h)), hg⟩
theorem TB_2 {w : Cond} {i : Nat} (h : tables_1_2[i]? = some w) (hg : zg w = true) : w ∈ TB := List.mem_filter.mpr ⟨List.mem_append_right _ (List.mem_append_right _ (List.mem_append_left _ (List.mem_of_getElem? h))), hg⟩
theorem TB_3 {w : Cond} {i : Nat} (h : tables_1_3[i]? = some w) (hg : zg w = true) : w ∈ TB := List.mem_filter.mpr ⟨List.mem_append_right _ (List.mem_append_right _ (List.mem_append_right _ (List.mem_append_left _ (List.mem_of_getElem? h)))), hg⟩
theorem TB_4 {w : Cond} {i : Nat} (h : tables_1_4[i]? = some w) (hg : zg w = true) : w ∈ TB := List.mem_filter.mpr ⟨List.mem_append_right _ (List.mem_append_right _ (List.mem_append_right _ (List.mem_append_right _ (List.mem_of_getElem? h)))), hg⟩
theorem TB_0 {w : Cond} {i : Nat} (h : (k2_sels lw_privs)[i]? = some w) (hg : zg w = true) : w ∈ TB := List.mem_filter.mpr ⟨List.mem_append_left _ (List.mem_of_getElem? h), hg⟩
theorem a1_0 : (Jvm.Cond.initialized "TrialDeskLaw") ∈ TB := TB_1 (i := 0) rfl rfl
theorem a1_1 : (Jvm.Cond.initialized "TrialDesk") ∈ TB := TB_1 (i := 1) rfl rfl
theorem a1_2 : (Jvm.Cond.initialized "TrialDesk$Plan") ∈ TB := TB_1 (i := 2) rfl rfl
theorem a1_3 : (Jvm.Cond.initialized "TrialDesk$Journal") ∈ TB := TB_1 (i := 3) rfl rfl
theorem a1_4 : (Jvm.Cond.initialized "TrialDesk$Shelf") ∈ TB := TB_1 (i := 4) rfl rfl
theorem a1_5 : (Jvm.Cond.initialized "TrialDesk$Stratum") ∈ TB := TB_1 (i := 5) rfl rfl
theorem a1_6 : (Jvm.Cond.initialized "TrialDeskModel") ∈ TB := TB_1 (i := 6) rfl rfl
theorem a1_7 : (Jvm.Cond.initialized "java/lang/Throwable") ∈ TB := TB_1 (i := 7) rfl rfl
theorem a1_8 : (Jvm.Cond.initialized "java/lang/Exception") ∈ TB := TB_1 (i := 8) rfl rfl
theorem a1_9 : (Jvm.Cond.initialized "java/lang/RuntimeException") ∈ TB := TB_1 (i := 9) rfl rfl
theorem a1_10 : (Jvm.Cond.initialized "java/lang/IllegalArgumentException") ∈ TB := TB_1 (i := 10) rfl rfl
theorem a1_11 : (Jvm.Cond.initialized "java/lang/IndexOutOfBoundsException") ∈ TB := TB_1 (i := 11) rfl rfl
theorem a1_12 : (Jvm.Cond.initialized "java/lang/IllegalStateException") ∈ TB := TB_1 (i := 12) rfl rfl
theorem a1_13 : (Jvm.Cond.initialized "TrialDesk$Site") ∈ TB := TB_1 (i := 13) rfl rfl
theorem a1_14 : (Jvm.Cond.initialized "TrialDesk$Reserve") ∈ TB := TB_1 (i := 14) rfl rfl
theorem a1_15 : (Jvm.Cond.initialized "java/lang/Math") ∈ TB := TB_1 (i := 15) rfl rfl
theorem a1_16 : (Jvm.Cond.initialized "java/util/Arrays") ∈ TB := TB_1 (i := 16) rfl rfl
theorem a1_17 : (Jvm.Cond.initialized "java/lang/System") ∈ TB := TB_1 (i := 17) rfl rfl
theorem a1_18 : (Jvm.Cond.initialized "java/lang/Integer") ∈ TB := TB_1 (i := 18) rfl rfl
theorem a1_19 : (Jvm.Cond.classLink "TrialDeskLaw" (8 : Nat) "TrialDesk") ∈ TB := TB_1 (i := 19) rfl rfl
theorem a1_20 : (Jvm.Cond.instantiable "TrialDesk" (8 : Nat)) ∈ TB := TB_1 (i := 20) rfl rfl
theorem a1_21 : (Jvm.Cond.methodLink "TrialDeskLaw" (75 : Nat) ({ cls := "TrialDesk", name := "<init>", desc := "()V" } : Jvm.MethodName)) ∈ TB := TB_1 (i := 21) rfl rfl
theorem a1_22 : (Jvm.Cond.instanceMethod ({ cls := "TrialDesk", name := "<init>", desc := "()V" } : Jvm.MethodName)) ∈ TB := TB_1 (i := 22) rfl rfl
theorem a1_23 : (Jvm.Cond.code ({ cls := "TrialDesk", name := "<init>", desc := "()V" } : Jvm.MethodName) prog_1_method_1_code (2 : Nat) (Option.none : Option Jvm.ClassFile.FieldType)) ∈ TB := TB_1 (i := 23) rfl rfl
theorem a1_24 : (Jvm.Cond.methodLink "TrialDesk" (1 : Nat) ({ cls := "java/lang/Object", name := "<init>", desc := "()V" } : Jvm.MethodName)) ∈ TB := TB_1 (i := 24) rfl rfl
theorem a1_25 : (Jvm.Cond.instanceMethod ({ cls := "java/lang/Object", name := "<init>", desc := "()V" } : Jvm.MethodName)) ∈ TB := TB_1 (i := 25) rfl rfl
theorem a1_26 : (Jvm.Cond.code ({ cls := "java/lang/Object", name := "<init>", desc := "()V" } : Jvm.MethodName) object_method_1_code (1 : Nat) (Option.none : Option Jvm.ClassFile.FieldType)) ∈ TB := TB_1 (i := 26) rfl rfl
theorem a1_27 : (Jvm.Cond.classLink "TrialDesk" (7 : Nat) "TrialDesk$Plan") ∈ TB := TB_1 (i := 27) rfl rfl
theorem a1_28 : (Jvm.Cond.instantiable "TrialDesk$Plan" (4 : Nat)) ∈ TB := TB_1 (i := 28) rfl rfl
theorem a1_29 : (Jvm.Cond.methodLinkNest "TrialDesk" (9 : Nat) ({ cls := "TrialDesk$Plan", name := "<init>", desc := "()V" } : Jvm.MethodName) "TrialDesk") ∈ TB := TB_1 (i := 29) rfl rfl
theorem a1_30 : (Jvm.Cond.instanceMethod ({ cls := "TrialDesk$Plan", name := "<init>", desc := "()V" } : Jvm.MethodName)) ∈ TB := TB_1 (i := 30) rfl rfl
theorem a1_31 : (Jvm.Cond.code ({ cls := "TrialDesk$Plan", name := "<init>", desc := "()V" } : Jvm.MethodName) prog_3_method_1_code (1 : Nat) (Option.none : Option Jvm.ClassFile.FieldType)) ∈ TB := TB_1 (i := 31) rfl rfl
theorem a1_32 : (Jvm.Cond.methodLink "TrialDesk$Plan" (3 : Nat) ({ cls := "java/lang/Object", name := "<init>", desc := "()V" } : Jvm.MethodName)) ∈ TB := TB_1 (i := 32) rfl rfl
theorem a1_33 : (Jvm.Cond.fieldLink "TrialDesk$Plan" (9 : Nat) "TrialDesk$Plan" "weights" "[I") ∈ TB := TB_1 (i := 33) rfl rfl
theorem a1_34 : (Jvm.Cond.fieldLink "TrialDesk$Plan" (15 : Nat) "TrialDesk$Plan" "armCount" "I") ∈ TB := TB_1 (i := 34) rfl rfl
theorem a1_35 : (Jvm.Cond.fieldLinkNest "TrialDesk$Stratum" (63 : Nat) "TrialDesk$Plan" "armCount" "I" "TrialDesk") ∈ TB := TB_1 (i := 35) rfl rfl
theorem a1_36 : (Jvm.Cond.fieldLinkNest "TrialDesk" (246 : Nat) "TrialDesk$Plan" "armCount" "I" "TrialDesk") ∈ TB := TB_1 (i := 36) rfl rfl
theorem a1_37 : (Jvm.Cond.fieldLink "TrialDesk$Plan" (19 : Nat) "TrialDesk$Plan" "total" "I") ∈ TB := TB_1 (i := 37) rfl rfl
theorem a1_38 : (Jvm.Cond.fieldLink "TrialDesk$Plan" (22 : Nat) "TrialDesk$Plan" "size" "I") ∈ TB := TB_1 (i := 38) rfl rfl
theorem a1_39 : (Jvm.Cond.fieldLinkNest "TrialDesk$Stratum" (54 : Nat) "TrialDesk$Plan" "size" "I" "TrialDesk") ∈ TB := TB_1 (i := 39) rfl rfl
theorem a1_40 : (Jvm.Cond.fieldLinkNest "TrialDesk" (168 : Nat) "TrialDesk$Plan" "size" "I" "TrialDesk") ∈ TB := TB_1 (i := 40) rfl rfl
theorem a1_41 : (Jvm.Cond.laysFinal "TrialDesk$Plan" "TrialDesk$Plan" "weights" "[I") ∈ TB := TB_1 (i := 41) rfl rfl
theorem a1_43 : (Jvm.Cond.lays "TrialDesk$Plan" "TrialDesk$Plan" "armCount" "I") ∈ TB := TB_1 (i := 43) rfl rfl
theorem a1_45 : (Jvm.Cond.lays "TrialDesk$Plan" "TrialDesk$Plan" "total" "I") ∈ TB := TB_1 (i := 45) rfl rfl
theorem a1_47 : (Jvm.Cond.lays "TrialDesk$Plan" "TrialDesk$Plan" "size" "I") ∈ TB := TB_1 (i := 47) rfl rfl
theorem a1_49 : (Jvm.Cond.superclass "TrialDesk$Plan" "java/lang/Object") ∈ TB := TB_1 (i := 49) rfl rfl
theorem a1_50 : (Jvm.Cond.arrayClass Jvm.ClassFile.FieldType.int) ∈ TB := TB_1 (i := 50) rfl rfl
theorem a1_51 : (Jvm.Cond.classLink "TrialDesk" (16 : Nat) "TrialDesk$Journal") ∈ TB := TB_1 (i := 51) rfl rfl
theorem a1_52 : (Jvm.Cond.instantiable "TrialDesk$Journal" (3 : Nat)) ∈ TB := TB_1 (i := 52) rfl rfl
theorem a1_53 : (Jvm.Cond.methodLinkNest "TrialDesk" (18 : Nat) ({ cls := "TrialDesk$Journal", name := "<init>", desc := "()V" } : Jvm.MethodName) "TrialDesk") ∈ TB := TB_1 (i := 53) rfl rfl
theorem a1_54 : (Jvm.Cond.instanceMethod ({ cls := "TrialDesk$Journal", name := "<init>", desc := "()V" } : Jvm.MethodName)) ∈ TB := TB_1 (i := 54) rfl rfl
theorem a1_55 : (Jvm.Cond.code ({ cls := "TrialDesk$Journal", name := "<init>", desc := "()V" } : Jvm.MethodName) prog_2_method_1_code (1 : Nat) (Option.none : Option Jvm.ClassFile.FieldType)) ∈ TB := TB_1 (i := 55) rfl rfl
theorem a1_56 : (Jvm.Cond.methodLink "TrialDesk$Journal" (1 : Nat) ({ cls := "java/lang/Object", name := "<init>", desc := "()V" } : Jvm.MethodName)) ∈ TB := TB_1 (i := 56) rfl rfl
theorem a1_57 : (Jvm.Cond.fieldLink "TrialDesk$Journal" (7 : Nat) "TrialDesk$Journal" "down" "Z") ∈ TB := TB_1 (i := 57) rfl rfl
theorem a1_58 : (Jvm.Cond.fieldLinkNest "TrialDesk" (67 : Nat) "TrialDesk$Journal" "down" "Z" "TrialDesk") ∈ TB := TB_1 (i := 58) rfl rfl
theorem a1_59 : (Jvm.Cond.fieldLink "TrialDesk$Journal" (13 : Nat) "TrialDesk$Journal" "tearing" "Z") ∈ TB := TB_1 (i := 59) rfl rfl
theorem a1_60 : (Jvm.Cond.fieldLink "TrialDesk$Journal" (16 : Nat) "TrialDesk$Journal" "records" "I") ∈ TB := TB_1 (i := 60) rfl rfl
theorem a1_61 : (Jvm.Cond.fieldLinkNest "TrialDesk" (240 : Nat) "TrialDesk$Journal" "records" "I" "TrialDesk") ∈ TB := TB_1 (i := 61) rfl rfl
theorem a1_62 : (Jvm.Cond.lays "TrialDesk$Journal" "TrialDesk$Journal" "down" "Z") ∈ TB := TB_1 (i := 62) rfl rfl
theorem a1_64 : (Jvm.Cond.lays "TrialDesk$Journal" "TrialDesk$Journal" "tearing" "Z") ∈ TB := TB_1 (i := 64) rfl rfl
theorem a1_66 : (Jvm.Cond.lays "TrialDesk$Journal" "TrialDesk$Journal" "records" "I") ∈ TB := TB_1 (i := 66) rfl rfl
theorem a1_68 : (Jvm.Cond.superclass "TrialDesk$Journal" "java/lang/Object") ∈ TB := TB_1 (i := 68) rfl rfl
theorem a1_69 : (Jvm.Cond.classLink "TrialDesk" (23 : Nat) "TrialDesk$Shelf") ∈ TB := TB_1 (i := 69) rfl rfl
theorem a1_70 : (Jvm.Cond.instantiable "TrialDesk$Shelf" (4 : Nat)) ∈ TB := TB_1 (i := 70) rfl rfl
theorem a1_71 : (Jvm.Cond.methodLinkNest "TrialDesk" (25 : Nat) ({ cls := "TrialDesk$Shelf", name := "<init>", desc := "()V" } : Jvm.MethodName) "TrialDesk") ∈ TB := TB_1 (i := 71) rfl rfl
theorem a1_72 : (Jvm.Cond.instanceMethod ({ cls := "TrialDesk$Shelf", name := "<init>", desc := "()V" } : Jvm.MethodName)) ∈ TB := TB_1 (i := 72) rfl rfl
theorem a1_73 : (Jvm.Cond.code ({ cls := "TrialDesk$Shelf", name := "<init>", desc := "()V" } : Jvm.MethodName) prog_5_method_1_code (1 : Nat) (Option.none : Option Jvm.ClassFile.FieldType)) ∈ TB := TB_1 (i := 73) rfl rfl
theorem a1_74 : (Jvm.Cond.methodLink "TrialDesk$Shelf" (3 : Nat) ({ cls := "java/lang/Object", name := "<init>", desc := "()V" } : Jvm.MethodName)) ∈ TB := TB_1 (i := 74) rfl rfl
theorem a1_75 : (Jvm.Cond.fieldLink "TrialDesk$Shelf" (9 : Nat) "TrialDesk$Shelf" "homes" "[I") ∈ TB := TB_1 (i := 75) rfl rfl
theorem a1_76 : (Jvm.Cond.fieldLink "TrialDesk$Shelf" (15 : Nat) "TrialDesk$Shelf" "forArm" "[I") ∈ TB := TB_1 (i := 76) rfl rfl
theorem a1_77 : (Jvm.Cond.fieldLink "TrialDesk$Shelf" (18 : Nat) "TrialDesk$Shelf" "states" "[I") ∈ TB := TB_1 (i := 77) rfl rfl
theorem a1_78 : (Jvm.Cond.fieldLink "TrialDesk$Shelf" (21 : Nat) "TrialDesk$Shelf" "users" "[I") ∈ TB := TB_1 (i := 78) rfl rfl
theorem a1_79 : (Jvm.Cond.laysFinal "TrialDesk$Shelf" "TrialDesk$Shelf" "homes" "[I") ∈ TB := TB_1 (i := 79) rfl rfl
theorem a1_81 : (Jvm.Cond.laysFinal "TrialDesk$Shelf" "TrialDesk$Shelf" "forArm" "[I") ∈ TB := TB_1 (i := 81) rfl rfl
theorem a1_83 : (Jvm.Cond.laysFinal "TrialDesk$Shelf" "TrialDesk$Shelf" "states" "[I") ∈ TB := TB_1 (i := 83) rfl rfl
theorem a1_85 : (Jvm.Cond.laysFinal "TrialDesk$Shelf" "TrialDesk$Shelf" "users" "[I") ∈ TB := TB_1 (i := 85) rfl rfl
theorem a1_87 : (Jvm.Cond.superclass "TrialDesk$Shelf" "java/lang/Object") ∈ TB := TB_1 (i := 87) rfl rfl
theorem a1_88 : (Jvm.Cond.classLink "TrialDesk" (30 : Nat) "TrialDesk$Site") ∈ TB := TB_1 (i := 88) rfl rfl
theorem a1_89 : (Jvm.Cond.arrayOver (Jvm.ClassFile.FieldType.object "TrialDesk$Site")) ∈ TB := TB_1 (i := 89) rfl rfl
theorem a1_90 : (Jvm.Cond.classLink "TrialDesk" (36 : Nat) "TrialDesk$Stratum") ∈ TB := TB_1 (i := 90) rfl rfl
theorem a1_91 : (Jvm.Cond.arrayOver (Jvm.ClassFile.FieldType.object "TrialDesk$Stratum")) ∈ TB := TB_1 (i := 91) rfl rfl
theorem a1_92 : (Jvm.Cond.instantiable "TrialDesk$Stratum" (9 : Nat)) ∈ TB := TB_1 (i := 92) rfl rfl
theorem a1_93 : (Jvm.Cond.methodLink "TrialDesk" (46 : Nat) ({ cls := "TrialDesk$Stratum", name := "<init>", desc := "(LTrialDesk$Plan;I)V" } : Jvm.MethodName)) ∈ TB := TB_1 (i := 93) rfl rfl
theorem a1_94 : (Jvm.Cond.instanceMethod ({ cls := "TrialDesk$Stratum", name := "<init>", desc := "(LTrialDesk$Plan;I)V" } : Jvm.MethodName)) ∈ TB := TB_1 (i := 94) rfl rfl
theorem a1_95 : (Jvm.Cond.code ({ cls := "TrialDesk$Stratum", name := "<init>", desc := "(LTrialDesk$Plan;I)V" } : Jvm.MethodName) prog_7_method_1_code (3 : Nat) (Option.none : Option Jvm.ClassFile.FieldType)) ∈ TB := TB_1 (i := 95) rfl rfl
theorem a1_96 : (Jvm.Cond.methodLink "TrialDesk$Stratum" (3 : Nat) ({ cls := "java/lang/Object", name := "<init>", desc := "()V" } : Jvm.MethodName)) ∈ TB := TB_1 (i := 96) rfl rfl
theorem a1_97 : (Jvm.Cond.fieldLink "TrialDesk$Stratum" (18 : Nat) "TrialDesk$Stratum" "plan" "LTrialDesk$Plan;") ∈ TB := TB_1 (i := 97) rfl rfl
theorem a1_98 : (Jvm.Cond.fieldLink "TrialDesk$Stratum" (22 : Nat) "TrialDesk$Stratum" "number" "I") ∈ TB := TB_1 (i := 98) rfl rfl
theorem a1_99 : (Jvm.Cond.fieldLink "TrialDesk$Stratum" (9 : Nat) "TrialDesk$Stratum" "known" "[I") ∈ TB := TB_1 (i := 99) rfl rfl
theorem a1_100 : (Jvm.Cond.fieldLink "TrialDesk$Stratum" (15 : Nat) "TrialDesk$Stratum" "list" "[I") ∈ TB := TB_1 (i := 100) rfl rfl
theorem a1_101 : (Jvm.Cond.fieldLink "TrialDesk$Stratum" (28 : Nat) "TrialDesk$Stratum" "word" "J") ∈ TB := TB_1 (i := 101) rfl rfl
theorem a1_102 : (Jvm.Cond.fieldLink "TrialDesk$Stratum" (32 : Nat) "TrialDesk$Stratum" "built" "I") ∈ TB := TB_1 (i := 102) rfl rfl
theorem a1_103 : (Jvm.Cond.fieldLink "TrialDesk$Stratum" (48 : Nat) "TrialDesk$Stratum" "taken" "I") ∈ TB := TB_1 (i := 103) rfl rfl
theorem a1_104 : (Jvm.Cond.fieldLinkNest "TrialDesk" (228 : Nat) "TrialDesk$Stratum" "taken" "I" "TrialDesk") ∈ TB := TB_1 (i := 104) rfl rfl
theorem a1_105 : (Jvm.Cond.fieldLink "TrialDesk$Stratum" (38 : Nat) "TrialDesk$Stratum" "openNext" "I") ∈ TB := TB_1 (i := 105) rfl rfl
theorem a1_106 : (Jvm.Cond.fieldLink "TrialDesk$Stratum" (35 : Nat) "TrialDesk$Stratum" "openLeft" "I") ∈ TB := TB_1 (i := 106) rfl rfl
theorem a1_107 : (Jvm.Cond.laysFinal "TrialDesk$Stratum" "TrialDesk$Stratum" "plan" "LTrialDesk$Plan;") ∈ TB := TB_1 (i := 107) rfl rfl
theorem a1_109 : (Jvm.Cond.laysFinal "TrialDesk$Stratum" "TrialDesk$Stratum" "number" "I") ∈ TB := TB_1 (i := 109) rfl rfl
theorem a1_111 : (Jvm.Cond.laysFinal "TrialDesk$Stratum" "TrialDesk$Stratum" "known" "[I") ∈ TB := TB_1 (i := 111) rfl rfl
theorem a1_113 : (Jvm.Cond.lays "TrialDesk$Stratum" "TrialDesk$Stratum" "list" "[I") ∈ TB := TB_1 (i := 113) rfl rfl
theorem a1_115 : (Jvm.Cond.lays "TrialDesk$Stratum" "TrialDesk$Stratum" "word" "J") ∈ TB := TB_1 (i := 115) rfl rfl
theorem a1_117 : (Jvm.Cond.lays "TrialDesk$Stratum" "TrialDesk$Stratum" "built" "I") ∈ TB := TB_1 (i := 117) rfl rfl
theorem a1_119 : (Jvm.Cond.lays "TrialDesk$Stratum" "TrialDesk$Stratum" "taken" "I") ∈ TB := TB_1 (i := 119) rfl rfl
theorem a1_121 : (Jvm.Cond.lays "TrialDesk$Stratum" "TrialDesk$Stratum" "openNext" "I") ∈ TB := TB_1 (i := 121) rfl rfl
theorem a1_123 : (Jvm.Cond.lays "TrialDesk$Stratum" "TrialDesk$Stratum" "openLeft" "I") ∈ TB := TB_1 (i := 123) rfl rfl
theorem a1_125 : (Jvm.Cond.superclass "TrialDesk$Stratum" "java/lang/Object") ∈ TB := TB_1 (i := 125) rfl rfl
theorem a1_126 : (Jvm.Cond.fieldLink "TrialDesk" (10 : Nat) "TrialDesk" "plan" "LTrialDesk$Plan;") ∈ TB := TB_1 (i := 126) rfl rfl
theorem a1_127 : (Jvm.Cond.fieldLink "TrialDesk" (19 : Nat) "TrialDesk" "journal" "LTrialDesk$Journal;") ∈ TB := TB_1 (i := 127) rfl rfl
theorem a1_128 : (Jvm.Cond.fieldLink "TrialDesk" (26 : Nat) "TrialDesk" "shelf" "LTrialDesk$Shelf;") ∈ TB := TB_1 (i := 128) rfl rfl
theorem a1_129 : (Jvm.Cond.fieldLink "TrialDesk" (32 : Nat) "TrialDesk" "sites" "[LTrialDesk$Site;") ∈ TB := TB_1 (i := 129) rfl rfl
theorem a1_130 : (Jvm.Cond.fieldLink "TrialDesk" (38 : Nat) "TrialDesk" "strata" "[LTrialDesk$Stratum;") ∈ TB := TB_1 (i := 130) rfl rfl
theorem a1_131 : (Jvm.Cond.fieldLink "TrialDesk" (42 : Nat) "TrialDesk" "picked" "[I") ∈ TB := TB_1 (i := 131) rfl rfl
theorem a1_132 : (Jvm.Cond.fieldLink "TrialDesk" (90 : Nat) "TrialDesk" "siteCount" "I") ∈ TB := TB_1 (i := 132) rfl rfl
theorem a1_133 : (Jvm.Cond.fieldLink "TrialDesk" (127 : Nat) "TrialDesk" "opened" "Z") ∈ TB := TB_1 (i := 133) rfl rfl
theorem a1_134 : (Jvm.Cond.laysFinal "TrialDesk" "TrialDesk" "plan" "LTrialDesk$Plan;") ∈ TB := TB_1 (i := 134) rfl rfl
theorem a1_136 : (Jvm.Cond.laysFinal "TrialDesk" "TrialDesk" "journal" "LTrialDesk$Journal;") ∈ TB := TB_1 (i := 136) rfl rfl
theorem a1_138 : (Jvm.Cond.laysFinal "TrialDesk" "TrialDesk" "shelf" "LTrialDesk$Shelf;") ∈ TB := TB_1 (i := 138) rfl rfl
theorem a1_140 : (Jvm.Cond.laysFinal "TrialDesk" "TrialDesk" "sites" "[LTrialDesk$Site;") ∈ TB := TB_1 (i := 140) rfl rfl
theorem a1_142 : (Jvm.Cond.laysFinal "TrialDesk" "TrialDesk" "strata" "[LTrialDesk$Stratum;") ∈ TB := TB_1 (i := 142) rfl rfl
theorem a1_144 : (Jvm.Cond.laysFinal "TrialDesk" "TrialDesk" "picked" "[I") ∈ TB := TB_1 (i := 144) rfl rfl
theorem a1_146 : (Jvm.Cond.lays "TrialDesk" "TrialDesk" "siteCount" "I") ∈ TB := TB_1 (i := 146) rfl rfl
theorem a1_148 : (Jvm.Cond.lays "TrialDesk" "TrialDesk" "opened" "Z") ∈ TB := TB_1 (i := 148) rfl rfl
theorem a1_150 : (Jvm.Cond.superclass "TrialDesk" "java/lang/Object") ∈ TB := TB_1 (i := 150) rfl rfl
theorem a1_151 : (Jvm.Cond.methodLink "TrialDeskLaw" (142 : Nat) ({ cls := "TrialDesk", name := "tear", desc := "()V" } : Jvm.MethodName)) ∈ TB := TB_1 (i := 151) rfl rfl
theorem a1_152 : (Jvm.Cond.instanceMethod ({ cls := "TrialDesk", name := "tear", desc := "()V" } : Jvm.MethodName)) ∈ TB := TB_1 (i := 152) rfl rfl
theorem a1_153 : (Jvm.Cond.selects "TrialDesk" ({ cls := "TrialDesk", name := "tear", desc := "()V" } : Jvm.MethodName) ({ cls := "TrialDesk", name := "tear", desc := "()V" } : Jvm.MethodName)) ∈ TB := TB_1 (i := 153) rfl rfl
theorem a1_154 : (Jvm.Cond.code ({ cls := "TrialDesk", name := "tear", desc := "()V" } : Jvm.MethodName) prog_1_method_19_code (1 : Nat) (Option.none : Option Jvm.ClassFile.FieldType)) ∈ TB := TB_1 (i := 154) rfl rfl
theorem a1_155 : (Jvm.Cond.methodLink "TrialDesk" (237 : Nat) ({ cls := "TrialDesk$Journal", name := "tearNext", desc := "()V" } : Jvm.MethodName)) ∈ TB := TB_1 (i := 155) rfl rfl
theorem a1_156 : (Jvm.Cond.instanceMethod ({ cls := "TrialDesk$Journal", name := "tearNext", desc := "()V" } : Jvm.MethodName)) ∈ TB := TB_1 (i := 156) rfl rfl
theorem a1_157 : (Jvm.Cond.selects "TrialDesk$Journal" ({ cls := "TrialDesk$Journal", name := "tearNext", desc := "()V" } : Jvm.MethodName) ({ cls := "TrialDesk$Journal", name := "tearNext", desc := "()V" } : Jvm.MethodName)) ∈ TB := TB_1 (i := 157) rfl rfl
theorem a1_158 : (Jvm.Cond.code ({ cls := "TrialDesk$Journal", name := "tearNext", desc := "()V" } : Jvm.MethodName) prog_2_method_2_code (1 : Nat) (Option.none : Option Jvm.ClassFile.FieldType)) ∈ TB := TB_1 (i := 158) rfl rfl
theorem a1_159 : (Jvm.Cond.methodLink "TrialDeskLaw" (81 : Nat) ({ cls := "TrialDeskLaw", name := "arms", desc := "(LTrialDesk;IIIIIJ)I" } : Jvm.MethodName)) ∈ TB := TB_1 (i := 159) rfl rfl
theorem a1_160 : (Jvm.Cond.static ({ cls := "TrialDeskLaw", name := "arms", desc := "(LTrialDesk;IIIIIJ)I" } : Jvm.MethodName)) ∈ TB := TB_1 (i := 160) rfl rfl
theorem a1_161 : (Jvm.Cond.codeWith ({ cls := "TrialDeskLaw", name := "arms", desc := "(LTrialDesk;IIIIIJ)I" } : Jvm.MethodName) method_3_code (9 : Nat) (Option.some Jvm.ClassFile.FieldType.int) [((0 : Nat), (13 : Nat), (16 : Nat), (13 : Nat)), ((0 : Nat), (13 : Nat), (20 : Nat), (15 : Nat))]) ∈ TB := TB_1 (i := 161) rfl rfl
theorem a1_162 : (Jvm.Cond.classLink "TrialDeskLaw" (13 : Nat) "java/lang/IllegalArgumentException") ∈ TB := TB_1 (i := 162) rfl rfl
theorem a1_163 : (Jvm.Cond.classLink "TrialDeskLaw" (15 : Nat) "java/lang/IllegalStateException") ∈ TB := TB_1 (i := 163) rfl rfl
theorem a1_164 : (Jvm.Cond.methodLink "TrialDeskLaw" (7 : Nat) ({ cls := "TrialDesk", name := "arms", desc := "(IIIIIJ)V" } : Jvm.MethodName)) ∈ TB := TB_1 (i := 164) rfl rfl
theorem a1_165 : (Jvm.Cond.instanceMethod ({ cls := "TrialDesk", name := "arms", desc := "(IIIIIJ)V" } : Jvm.MethodName)) ∈ TB := TB_1 (i := 165) rfl rfl
theorem a1_166 : (Jvm.Cond.selects "TrialDesk" ({ cls := "TrialDesk", name := "arms", desc := "(IIIIIJ)V" } : Jvm.MethodName) ({ cls := "TrialDesk", name := "arms", desc := "(IIIIIJ)V" } : Jvm.MethodName)) ∈ TB := TB_1 (i := 166) rfl rfl
theorem a1_167 : (Jvm.Cond.code ({ cls := "TrialDesk", name := "arms", desc := "(IIIIIJ)V" } : Jvm.MethodName) prog_1_method_2_code (9 : Nat) (Option.none : Option Jvm.ClassFile.FieldType)) ∈ TB := TB_1 (i := 167) rfl rfl
theorem a1_168 : (Jvm.Cond.methodLink "TrialDesk" (49 : Nat) ({ cls := "TrialDesk", name := "areWeights", desc := "(IIII)Z" } : Jvm.MethodName)) ∈ TB := TB_1 (i := 168) rfl rfl
theorem a1_169 : (Jvm.Cond.static ({ cls := "TrialDesk", name := "areWeights", desc := "(IIII)Z" } : Jvm.MethodName)) ∈ TB := TB_1 (i := 169) rfl rfl
theorem a1_170 : (Jvm.Cond.code ({ cls := "TrialDesk", name := "areWeights", desc := "(IIII)Z" } : Jvm.MethodName) prog_1_method_21_code (5 : Nat) (Option.some Jvm.ClassFile.FieldType.boolean)) ∈ TB := TB_1 (i := 170) rfl rfl
theorem a1_171 : (Jvm.Cond.methodLink "TrialDesk" (243 : Nat) ({ cls := "TrialDesk", name := "isWeight", desc := "(II)Z" } : Jvm.MethodName)) ∈ TB := TB_1 (i := 171) rfl rfl
theorem a1_172 : (Jvm.Cond.static ({ cls := "TrialDesk", name := "isWeight", desc := "(II)Z" } : Jvm.MethodName)) ∈ TB := TB_1 (i := 172) rfl rfl
theorem a1_173 : (Jvm.Cond.code ({ cls := "TrialDesk", name := "isWeight", desc := "(II)Z" } : Jvm.MethodName) prog_1_method_22_code (2 : Nat) (Option.some Jvm.ClassFile.FieldType.boolean)) ∈ TB := TB_1 (i := 173) rfl rfl
theorem a1_174 : (Jvm.Cond.methodLink "TrialDesk" (53 : Nat) ({ cls := "TrialDesk", name := "isSize", desc := "(II)Z" } : Jvm.MethodName)) ∈ TB := TB_1 (i := 174) rfl rfl
theorem a1_175 : (Jvm.Cond.static ({ cls := "TrialDesk", name := "isSize", desc := "(II)Z" } : Jvm.MethodName)) ∈ TB := TB_1 (i := 175) rfl rfl
theorem a1_176 : (Jvm.Cond.code ({ cls := "TrialDesk", name := "isSize", desc := "(II)Z" } : Jvm.MethodName) prog_1_method_23_code (2 : Nat) (Option.some Jvm.ClassFile.FieldType.boolean)) ∈ TB := TB_1 (i := 176) rfl rfl
theorem a1_177 : (Jvm.Cond.classLink "TrialDesk" (57 : Nat) "java/lang/IllegalArgumentException") ∈ TB := TB_1 (i := 177) rfl rfl
theorem a1_178 : (Jvm.Cond.instantiable "java/lang/IllegalArgumentException" (6 : Nat)) ∈ TB := TB_1 (i := 178) rfl rfl
theorem a1_179 : (Jvm.Cond.castable "java/lang/IllegalArgumentException" "java/lang/IllegalArgumentException") ∈ TB := TB_1 (i := 179) rfl rfl
theorem a1_180 : (Jvm.Cond.declares ({ cls := "java/lang/RuntimeException", name := "<init>", desc := "()V" } : Jvm.MethodName)) ∈ TB := TB_1 (i := 180) rfl rfl
theorem a1_181 : (Jvm.Cond.declares ({ cls := "java/lang/RuntimeException", name := "<init>", desc := "(Ljava/lang/String;)V" } : Jvm.MethodName)) ∈ TB := TB_1 (i := 181) rfl rfl
theorem a1_182 : (Jvm.Cond.declares ({ cls := "java/lang/Exception", name := "<init>", desc := "()V" } : Jvm.MethodName)) ∈ TB := TB_1 (i := 182) rfl rfl
theorem a1_183 : (Jvm.Cond.declares ({ cls := "java/lang/Exception", name := "<init>", desc := "(Ljava/lang/String;)V" } : Jvm.MethodName)) ∈ TB := TB_1 (i := 183) rfl rfl
theorem a1_184 : (Jvm.Cond.declares ({ cls := "java/lang/Throwable", name := "<init>", desc := "()V" } : Jvm.MethodName)) ∈ TB := TB_1 (i := 184) rfl rfl
theorem a1_185 : (Jvm.Cond.declares ({ cls := "java/lang/Throwable", name := "<init>", desc := "(Ljava/lang/String;)V" } : Jvm.MethodName)) ∈ TB := TB_1 (i := 185) rfl rfl
theorem a1_186 : (Jvm.Cond.selects "java/lang/IllegalArgumentException" ({ cls := "java/lang/Throwable", name := "fillInStackTrace", desc := "(I)Ljava/lang/Throwable;" } : Jvm.MethodName) ({ cls := "java/lang/Throwable", name := "fillInStackTrace", desc := "(I)Ljava/lang/Throwable;" } : Jvm.MethodName)) ∈ TB := TB_1 (i := 186) rfl rfl
theorem a1_187 : (Jvm.Cond.selects "java/lang/IllegalArgumentException" ({ cls := "java/lang/Throwable", name := "fillInStackTrace", desc := "()Ljava/lang/Throwable;" } : Jvm.MethodName) ({ cls := "java/lang/Throwable", name := "fillInStackTrace", desc := "()Ljava/lang/Throwable;" } : Jvm.MethodName)) ∈ TB := TB_1 (i := 187) rfl rfl
theorem a1_188 : (Jvm.Cond.lays "java/lang/IllegalArgumentException" "java/lang/Throwable" "cause" "Ljava/lang/Throwable;") ∈ TB := TB_1 (i := 188) rfl rfl
theorem a1_189 : (Jvm.Cond.lays "java/lang/Throwable" "java/lang/Throwable" "cause" "Ljava/lang/Throwable;") ∈ TB := TB_1 (i := 189) rfl rfl
theorem a1_190 : (Jvm.Cond.lays "java/lang/IllegalArgumentException" "java/lang/Throwable" "stackTrace" "[Ljava/lang/StackTraceElement;") ∈ TB := TB_1 (i := 190) rfl rfl
theorem a1_191 : (Jvm.Cond.lays "java/lang/Throwable" "java/lang/Throwable" "stackTrace" "[Ljava/lang/StackTraceElement;") ∈ TB := TB_1 (i := 191) rfl rfl
theorem a1_192 : (Jvm.Cond.lays "java/lang/IllegalArgumentException" "java/lang/Throwable" "suppressedExceptions" "Ljava/util/List;") ∈ TB := TB_1 (i := 192) rfl rfl
theorem a1_193 : (Jvm.Cond.lays "java/lang/Throwable" "java/lang/Throwable" "suppressedExceptions" "Ljava/util/List;") ∈ TB := TB_1 (i := 193) rfl rfl
theorem a1_194 : (Jvm.Cond.lays "java/lang/IllegalArgumentException" "java/lang/Throwable" "detailMessage" "Ljava/lang/String;") ∈ TB := TB_1 (i := 194) rfl rfl
theorem a1_195 : (Jvm.Cond.lays "java/lang/Throwable" "java/lang/Throwable" "detailMessage" "Ljava/lang/String;") ∈ TB := TB_1 (i := 195) rfl rfl
theorem a1_196 : (Jvm.Cond.lays "java/lang/IllegalArgumentException" "java/lang/Throwable" "backtrace" "Ljava/lang/Object;") ∈ TB := TB_1 (i := 196) rfl rfl
theorem a1_197 : (Jvm.Cond.lays "java/lang/Throwable" "java/lang/Throwable" "backtrace" "Ljava/lang/Object;") ∈ TB := TB_1 (i := 197) rfl rfl
theorem a1_198 : (Jvm.Cond.fieldLink "java/lang/Throwable" (198 : Nat) "java/lang/Throwable" "backtrace" "Ljava/lang/Object;") ∈ TB := TB_1 (i := 198) rfl rfl
theorem a1_199 : (Jvm.Cond.superclass "java/lang/Throwable" "java/lang/Object") ∈ TB := TB_1 (i := 199) rfl rfl
theorem a1_200 : (Jvm.Cond.instanceMethod ({ cls := "java/lang/Throwable", name := "<init>", desc := "()V" } : Jvm.MethodName)) ∈ TB := TB_1 (i := 200) rfl rfl
theorem a1_201 : (Jvm.Cond.code ({ cls := "java/lang/Throwable", name := "<init>", desc := "()V" } : Jvm.MethodName) prog_19_method_1_code (1 : Nat) (Option.none : Option Jvm.ClassFile.FieldType)) ∈ TB := TB_1 (i := 201) rfl rfl
theorem a1_202 : (Jvm.Cond.methodLink "java/lang/Throwable" (1 : Nat) ({ cls := "java/lang/Object", name := "<init>", desc := "()V" } : Jvm.MethodName)) ∈ TB := TB_1 (i := 202) rfl rfl
theorem a1_203 : (Jvm.Cond.fieldLink "java/lang/Throwable" (13 : Nat) "java/lang/Throwable" "UNASSIGNED_STACK" "[Ljava/lang/StackTraceElement;") ∈ TB := TB_1 (i := 203) rfl rfl
theorem a1_205 : (Jvm.Cond.fieldLink "java/lang/Throwable" (20 : Nat) "java/lang/Throwable" "SUPPRESSED_SENTINEL" "Ljava/util/List;") ∈ TB := TB_1 (i := 205) rfl rfl
theorem a1_207 : (Jvm.Cond.methodLink "java/lang/Throwable" (27 : Nat) ({ cls := "java/lang/Throwable", name := "fillInStackTrace", desc := "()Ljava/lang/Throwable;" } : Jvm.MethodName)) ∈ TB := TB_1 (i := 207) rfl rfl
theorem a1_208 : (Jvm.Cond.instanceMethod ({ cls := "java/lang/Throwable", name := "fillInStackTrace", desc := "()Ljava/lang/Throwable;" } : Jvm.MethodName)) ∈ TB := TB_1 (i := 208) rfl rfl
theorem a1_209 : (Jvm.Cond.sameMethod "java/lang/Throwable" "java/lang/Throwable" "fillInStackTrace" "()Ljava/lang/Throwable;") ∈ TB := TB_1 (i := 209) rfl rfl
theorem a1_210 : (Jvm.Cond.selects "java/lang/IllegalStateException" ({ cls := "java/lang/Throwable", name := "fillInStackTrace", desc := "()Ljava/lang/Throwable;" } : Jvm.MethodName) ({ cls := "java/lang/Throwable", name := "fillInStackTrace", desc := "()Ljava/lang/Throwable;" } : Jvm.MethodName)) ∈ TB := TB_1 (i := 210) rfl rfl
theorem a1_211 : (Jvm.Cond.selects "java/lang/IndexOutOfBoundsException" ({ cls := "java/lang/Throwable", name := "fillInStackTrace", desc := "()Ljava/lang/Throwable;" } : Jvm.MethodName) ({ cls := "java/lang/Throwable", name := "fillInStackTrace", desc := "()Ljava/lang/Throwable;" } : Jvm.MethodName)) ∈ TB := TB_1 (i := 211) rfl rfl
theorem a1_212 : (Jvm.Cond.codeSync ({ cls := "java/lang/Throwable", name := "fillInStackTrace", desc := "()Ljava/lang/Throwable;" } : Jvm.MethodName) prog_19_method_18_code (1 : Nat) (Option.some (Jvm.ClassFile.FieldType.object "java/lang/Throwable"))) ∈ TB := TB_1 (i := 212) rfl rfl
theorem a1_213 : (Jvm.Cond.methodLink "java/lang/Throwable" (202 : Nat) ({ cls := "java/lang/Throwable", name := "fillInStackTrace", desc := "(I)Ljava/lang/Throwable;" } : Jvm.MethodName)) ∈ TB := TB_1 (i := 213) rfl rfl
theorem a1_215 : (Jvm.Cond.instanceMethod ({ cls := "java/lang/Throwable", name := "fillInStackTrace", desc := "(I)Ljava/lang/Throwable;" } : Jvm.MethodName)) ∈ TB := TB_1 (i := 215) rfl rfl
theorem a1_216 : (Jvm.Cond.instantiable "java/lang/Throwable" (6 : Nat)) ∈ TB := TB_1 (i := 216) rfl rfl
theorem a1_217 : (Jvm.Cond.native ({ cls := "java/lang/Throwable", name := "fillInStackTrace", desc := "(I)Ljava/lang/Throwable;" } : Jvm.MethodName)) ∈ TB := TB_1 (i := 217) rfl rfl
theorem a1_218 : (Jvm.Cond.methodLink "TrialDesk" (59 : Nat) ({ cls := "java/lang/IllegalArgumentException", name := "<init>", desc := "()V" } : Jvm.MethodName)) ∈ TB := TB_1 (i := 218) rfl rfl
theorem a1_219 : (Jvm.Cond.instanceMethod ({ cls := "java/lang/IllegalArgumentException", name := "<init>", desc := "()V" } : Jvm.MethodName)) ∈ TB := TB_1 (i := 219) rfl rfl
theorem a1_220 : (Jvm.Cond.code ({ cls := "java/lang/IllegalArgumentException", name := "<init>", desc := "()V" } : Jvm.MethodName) prog_12_method_1_code (1 : Nat) (Option.none : Option Jvm.ClassFile.FieldType)) ∈ TB := TB_1 (i := 220) rfl rfl
theorem a1_221 : (Jvm.Cond.methodLink "java/lang/IllegalArgumentException" (1 : Nat) ({ cls := "java/lang/RuntimeException", name := "<init>", desc := "()V" } : Jvm.MethodName)) ∈ TB := TB_1 (i := 221) rfl rfl
theorem a1_222 : (Jvm.Cond.instanceMethod ({ cls := "java/lang/RuntimeException", name := "<init>", desc := "()V" } : Jvm.MethodName)) ∈ TB := TB_1 (i := 222) rfl rfl
theorem a1_223 : (Jvm.Cond.code ({ cls := "java/lang/RuntimeException", name := "<init>", desc := "()V" } : Jvm.MethodName) prog_17_method_1_code (1 : Nat) (Option.none : Option Jvm.ClassFile.FieldType)) ∈ TB := TB_1 (i := 223) rfl rfl
theorem a1_224 : (Jvm.Cond.methodLink "java/lang/RuntimeException" (1 : Nat) ({ cls := "java/lang/Exception", name := "<init>", desc := "()V" } : Jvm.MethodName)) ∈ TB := TB_1 (i := 224) rfl rfl
theorem a1_225 : (Jvm.Cond.instanceMethod ({ cls := "java/lang/Exception", name := "<init>", desc := "()V" } : Jvm.MethodName)) ∈ TB := TB_1 (i := 225) rfl rfl
theorem a1_226 : (Jvm.Cond.code ({ cls := "java/lang/Exception", name := "<init>", desc := "()V" } : Jvm.MethodName) prog_11_method_1_code (1 : Nat) (Option.none : Option Jvm.ClassFile.FieldType)) ∈ TB := TB_1 (i := 226) rfl rfl
theorem a1_227 : (Jvm.Cond.methodLink "java/lang/Exception" (1 : Nat) ({ cls := "java/lang/Throwable", name := "<init>", desc := "()V" } : Jvm.MethodName)) ∈ TB := TB_1 (i := 227) rfl rfl
theorem a1_228 : (Jvm.Cond.fieldLink "java/lang/Throwable" (198 : Nat) "java/lang/Throwable" "backtrace" "Ljava/lang/Object;") ∈ TB := TB_1 (i := 228) rfl rfl
theorem a1_229 : (Jvm.Cond.fieldLink "java/lang/Throwable" (7 : Nat) "java/lang/Throwable" "cause" "Ljava/lang/Throwable;") ∈ TB := TB_1 (i := 229) rfl rfl
theorem a1_230 : (Jvm.Cond.fieldLink "java/lang/Throwable" (17 : Nat) "java/lang/Throwable" "stackTrace" "[Ljava/lang/StackTraceElement;") ∈ TB := TB_1 (i := 230) rfl rfl
theorem a1_231 : (Jvm.Cond.fieldLink "java/lang/Throwable" (24 : Nat) "java/lang/Throwable" "suppressedExceptions" "Ljava/util/List;") ∈ TB := TB_1 (i := 231) rfl rfl
theorem a1_236 : (Jvm.Cond.lays "java/lang/IllegalArgumentException" "java/lang/Throwable" "depth" "I") ∈ TB := TB_1 (i := 236) rfl rfl
theorem a1_239 : (Jvm.Cond.superclass "java/lang/IllegalArgumentException" "java/lang/RuntimeException") ∈ TB := TB_1 (i := 239) rfl rfl
theorem a2_0 : (Jvm.Cond.methodLink "TrialDesk" (60 : Nat) ({ cls := "TrialDesk", name := "isAnyBlockTaken", desc := "()Z" } : Jvm.MethodName)) ∈ TB := TB_2 (i := 0) rfl rfl
theorem a2_2 : (Jvm.Cond.instanceMethod ({ cls := "TrialDesk", name := "isAnyBlockTaken", desc := "()Z" } : Jvm.MethodName)) ∈ TB := TB_2 (i := 2) rfl rfl
theorem a2_3 : (Jvm.Cond.code ({ cls := "TrialDesk", name := "isAnyBlockTaken", desc := "()Z" } : Jvm.MethodName) prog_1_method_24_code (2 : Nat) (Option.some Jvm.ClassFile.FieldType.boolean)) ∈ TB := TB_2 (i := 3) rfl rfl
theorem a2_4 : (Jvm.Cond.methodLink "TrialDesk" (78 : Nat) ({ cls := "TrialDesk", name := "stratumAt", desc := "(I)LTrialDesk$Stratum;" } : Jvm.MethodName)) ∈ TB := TB_2 (i := 4) rfl rfl
theorem a2_6 : (Jvm.Cond.instanceMethod ({ cls := "TrialDesk", name := "stratumAt", desc := "(I)LTrialDesk$Stratum;" } : Jvm.MethodName)) ∈ TB := TB_2 (i := 6) rfl rfl
theorem a2_7 : (Jvm.Cond.code ({ cls := "TrialDesk", name := "stratumAt", desc := "(I)LTrialDesk$Stratum;" } : Jvm.MethodName) prog_1_method_26_code (2 : Nat) (Option.some (Jvm.ClassFile.FieldType.object "TrialDesk$Stratum"))) ∈ TB := TB_2 (i := 7) rfl rfl
theorem a2_8 : (Jvm.Cond.classLink "TrialDesk" (86 : Nat) "java/lang/IndexOutOfBoundsException") ∈ TB := TB_2 (i := 8) rfl rfl
theorem a2_9 : (Jvm.Cond.instantiable "java/lang/IndexOutOfBoundsException" (6 : Nat)) ∈ TB := TB_2 (i := 9) rfl rfl
theorem a2_10 : (Jvm.Cond.castable "java/lang/IndexOutOfBoundsException" "java/lang/IndexOutOfBoundsException") ∈ TB := TB_2 (i := 10) rfl rfl
theorem a2_11 : (Jvm.Cond.selects "java/lang/IndexOutOfBoundsException" ({ cls := "java/lang/Throwable", name := "fillInStackTrace", desc := "(I)Ljava/lang/Throwable;" } : Jvm.MethodName) ({ cls := "java/lang/Throwable", name := "fillInStackTrace", desc := "(I)Ljava/lang/Throwable;" } : Jvm.MethodName)) ∈ TB := TB_2 (i := 11) rfl rfl
theorem a2_12 : (Jvm.Cond.lays "java/lang/IndexOutOfBoundsException" "java/lang/Throwable" "cause" "Ljava/lang/Throwable;") ∈ TB := TB_2 (i := 12) rfl rfl
theorem a2_13 : (Jvm.Cond.lays "java/lang/IndexOutOfBoundsException" "java/lang/Throwable" "stackTrace" "[Ljava/lang/StackTraceElement;") ∈ TB := TB_2 (i := 13) rfl rfl
theorem a2_14 : (Jvm.Cond.lays "java/lang/IndexOutOfBoundsException" "java/lang/Throwable" "suppressedExceptions" "Ljava/util/List;") ∈ TB := TB_2 (i := 14) rfl rfl
theorem a2_15 : (Jvm.Cond.lays "java/lang/IndexOutOfBoundsException" "java/lang/Throwable" "detailMessage" "Ljava/lang/String;") ∈ TB := TB_2 (i := 15) rfl rfl
theorem a2_16 : (Jvm.Cond.lays "java/lang/IndexOutOfBoundsException" "java/lang/Throwable" "backtrace" "Ljava/lang/Object;") ∈ TB := TB_2 (i := 16) rfl rfl
theorem a2_17 : (Jvm.Cond.methodLink "TrialDesk" (88 : Nat) ({ cls := "java/lang/IndexOutOfBoundsException", name := "<init>", desc := "()V" } : Jvm.MethodName)) ∈ TB := TB_2 (i := 17) rfl rfl
theorem a2_18 : (Jvm.Cond.instanceMethod ({ cls := "java/lang/IndexOutOfBoundsException", name := "<init>", desc := "()V" } : Jvm.MethodName)) ∈ TB := TB_2 (i := 18) rfl rfl
theorem a2_19 : (Jvm.Cond.code ({ cls := "java/lang/IndexOutOfBoundsException", name := "<init>", desc := "()V" } : Jvm.MethodName) prog_14_method_1_code (1 : Nat) (Option.none : Option Jvm.ClassFile.FieldType)) ∈ TB := TB_2 (i := 19) rfl rfl
theorem a2_20 : (Jvm.Cond.methodLink "java/lang/IndexOutOfBoundsException" (1 : Nat) ({ cls := "java/lang/RuntimeException", name := "<init>", desc := "()V" } : Jvm.MethodName)) ∈ TB := TB_2 (i := 20) rfl rfl
theorem a2_21 : (Jvm.Cond.lays "java/lang/IndexOutOfBoundsException" "java/lang/Throwable" "depth" "I") ∈ TB := TB_2 (i := 21) rfl rfl
theorem a2_22 : (Jvm.Cond.superclass "java/lang/IndexOutOfBoundsException" "java/lang/RuntimeException") ∈ TB := TB_2 (i := 22) rfl rfl
theorem a2_23 : (Jvm.Cond.classLink "TrialDesk" (64 : Nat) "java/lang/IllegalStateException") ∈ TB := TB_2 (i := 23) rfl rfl
theorem a2_24 : (Jvm.Cond.instantiable "java/lang/IllegalStateException" (6 : Nat)) ∈ TB := TB_2 (i := 24) rfl rfl
theorem a2_25 : (Jvm.Cond.castable "java/lang/IllegalStateException" "java/lang/IllegalStateException") ∈ TB := TB_2 (i := 25) rfl rfl
theorem a2_26 : (Jvm.Cond.selects "java/lang/IllegalStateException" ({ cls := "java/lang/Throwable", name := "fillInStackTrace", desc := "(I)Ljava/lang/Throwable;" } : Jvm.MethodName) ({ cls := "java/lang/Throwable", name := "fillInStackTrace", desc := "(I)Ljava/lang/Throwable;" } : Jvm.MethodName)) ∈ TB := TB_2 (i := 26) rfl rfl
theorem a2_27 : (Jvm.Cond.lays "java/lang/IllegalStateException" "java/lang/Throwable" "cause" "Ljava/lang/Throwable;") ∈ TB := TB_2 (i := 27) rfl rfl
theorem a2_28 : (Jvm.Cond.lays "java/lang/IllegalStateException" "java/lang/Throwable" "stackTrace" "[Ljava/lang/StackTraceElement;") ∈ TB := TB_2 (i := 28) rfl rfl
theorem a2_29 : (Jvm.Cond.lays "java/lang/IllegalStateException" "java/lang/Throwable" "suppressedExceptions" "Ljava/util/List;") ∈ TB := TB_2 (i := 29) rfl rfl
theorem a2_30 : (Jvm.Cond.lays "java/lang/IllegalStateException" "java/lang/Throwable" "detailMessage" "Ljava/lang/String;") ∈ TB := TB_2 (i := 30) rfl rfl
theorem a2_31 : (Jvm.Cond.lays "java/lang/IllegalStateException" "java/lang/Throwable" "backtrace" "Ljava/lang/Object;") ∈ TB := TB_2 (i := 31) rfl rfl
theorem a2_32 : (Jvm.Cond.methodLink "TrialDesk" (66 : Nat) ({ cls := "java/lang/IllegalStateException", name := "<init>", desc := "()V" } : Jvm.MethodName)) ∈ TB := TB_2 (i := 32) rfl rfl
theorem a2_33 : (Jvm.Cond.instanceMethod ({ cls := "java/lang/IllegalStateException", name := "<init>", desc := "()V" } : Jvm.MethodName)) ∈ TB := TB_2 (i := 33) rfl rfl
theorem a2_34 : (Jvm.Cond.code ({ cls := "java/lang/IllegalStateException", name := "<init>", desc := "()V" } : Jvm.MethodName) prog_13_method_1_code (1 : Nat) (Option.none : Option Jvm.ClassFile.FieldType)) ∈ TB := TB_2 (i := 34) rfl rfl
theorem a2_35 : (Jvm.Cond.methodLink "java/lang/IllegalStateException" (1 : Nat) ({ cls := "java/lang/RuntimeException", name := "<init>", desc := "()V" } : Jvm.MethodName)) ∈ TB := TB_2 (i := 35) rfl rfl
theorem a2_36 : (Jvm.Cond.lays "java/lang/IllegalStateException" "java/lang/Throwable" "depth" "I") ∈ TB := TB_2 (i := 36) rfl rfl
theorem a2_37 : (Jvm.Cond.superclass "java/lang/IllegalStateException" "java/lang/RuntimeException") ∈ TB := TB_2 (i := 37) rfl rfl
theorem a2_38 : (Jvm.Cond.methodLink "TrialDesk" (71 : Nat) ({ cls := "TrialDesk$Journal", name := "write", desc := "()Z" } : Jvm.MethodName)) ∈ TB := TB_2 (i := 38) rfl rfl
theorem a2_39 : (Jvm.Cond.instanceMethod ({ cls := "TrialDesk$Journal", name := "write", desc := "()Z" } : Jvm.MethodName)) ∈ TB := TB_2 (i := 39) rfl rfl
theorem a2_40 : (Jvm.Cond.selects "TrialDesk$Journal" ({ cls := "TrialDesk$Journal", name := "write", desc := "()Z" } : Jvm.MethodName) ({ cls := "TrialDesk$Journal", name := "write", desc := "()Z" } : Jvm.MethodName)) ∈ TB := TB_2 (i := 40) rfl rfl
theorem a2_41 : (Jvm.Cond.code ({ cls := "TrialDesk$Journal", name := "write", desc := "()Z" } : Jvm.MethodName) prog_2_method_3_code (1 : Nat) (Option.some Jvm.ClassFile.FieldType.boolean)) ∈ TB := TB_2 (i := 41) rfl rfl
theorem a2_42 : (Jvm.Cond.methodLink "TrialDesk" (74 : Nat) ({ cls := "TrialDesk$Plan", name := "set", desc := "(IIIII)V" } : Jvm.MethodName)) ∈ TB := TB_2 (i := 42) rfl rfl
theorem a2_43 : (Jvm.Cond.instanceMethod ({ cls := "TrialDesk$Plan", name := "set", desc := "(IIIII)V" } : Jvm.MethodName)) ∈ TB := TB_2 (i := 43) rfl rfl
theorem a2_44 : (Jvm.Cond.selects "TrialDesk$Plan" ({ cls := "TrialDesk$Plan", name := "set", desc := "(IIIII)V" } : Jvm.MethodName) ({ cls := "TrialDesk$Plan", name := "set", desc := "(IIIII)V" } : Jvm.MethodName)) ∈ TB := TB_2 (i := 44) rfl rfl
theorem a2_45 : (Jvm.Cond.code ({ cls := "TrialDesk$Plan", name := "set", desc := "(IIIII)V" } : Jvm.MethodName) prog_3_method_2_code (6 : Nat) (Option.none : Option Jvm.ClassFile.FieldType)) ∈ TB := TB_2 (i := 45) rfl rfl
theorem a2_46 : (Jvm.Cond.methodLink "TrialDesk" (82 : Nat) ({ cls := "TrialDesk$Stratum", name := "restart", desc := "(J)V" } : Jvm.MethodName)) ∈ TB := TB_2 (i := 46) rfl rfl
theorem a2_47 : (Jvm.Cond.instanceMethod ({ cls := "TrialDesk$Stratum", name := "restart", desc := "(J)V" } : Jvm.MethodName)) ∈ TB := TB_2 (i := 47) rfl rfl
theorem a2_48 : (Jvm.Cond.selects "TrialDesk$Stratum" ({ cls := "TrialDesk$Stratum", name := "restart", desc := "(J)V" } : Jvm.MethodName) ({ cls := "TrialDesk$Stratum", name := "restart", desc := "(J)V" } : Jvm.MethodName)) ∈ TB := TB_2 (i := 48) rfl rfl
theorem a2_49 : (Jvm.Cond.code ({ cls := "TrialDesk$Stratum", name := "restart", desc := "(J)V" } : Jvm.MethodName) prog_7_method_2_code (3 : Nat) (Option.none : Option Jvm.ClassFile.FieldType)) ∈ TB := TB_2 (i := 49) rfl rfl
theorem a2_50 : (Jvm.Cond.constantLong "TrialDesk$Stratum" (26 : Nat) (-7046029254386353131 : Int64)) ∈ TB := TB_2 (i := 50) rfl rfl
theorem a2_51 : (Jvm.Cond.methodLink "TrialDeskLaw" (90 : Nat) ({ cls := "TrialDeskLaw", name := "site", desc := "(LTrialDesk;I[J)I" } : Jvm.MethodName)) ∈ TB := TB_2 (i := 51) rfl rfl
theorem a2_52 : (Jvm.Cond.static ({ cls := "TrialDeskLaw", name := "site", desc := "(LTrialDesk;I[J)I" } : Jvm.MethodName)) ∈ TB := TB_2 (i := 52) rfl rfl
theorem a2_53 : (Jvm.Cond.codeWith ({ cls := "TrialDeskLaw", name := "site", desc := "(LTrialDesk;I[J)I" } : Jvm.MethodName) method_4_code (4 : Nat) (Option.some Jvm.ClassFile.FieldType.int) [((0 : Nat), (9 : Nat), (12 : Nat), (21 : Nat)), ((0 : Nat), (9 : Nat), (15 : Nat), (13 : Nat))]) ∈ TB := TB_2 (i := 53) rfl rfl
theorem a2_54 : (Jvm.Cond.classLink "TrialDeskLaw" (21 : Nat) "java/lang/IndexOutOfBoundsException") ∈ TB := TB_2 (i := 54) rfl rfl
theorem a2_55 : (Jvm.Cond.methodLink "TrialDeskLaw" (17 : Nat) ({ cls := "TrialDesk", name := "site", desc := "(I)I" } : Jvm.MethodName)) ∈ TB := TB_2 (i := 55) rfl rfl
theorem a2_56 : (Jvm.Cond.instanceMethod ({ cls := "TrialDesk", name := "site", desc := "(I)I" } : Jvm.MethodName)) ∈ TB := TB_2 (i := 56) rfl rfl
theorem a2_57 : (Jvm.Cond.selects "TrialDesk" ({ cls := "TrialDesk", name := "site", desc := "(I)I" } : Jvm.MethodName) ({ cls := "TrialDesk", name := "site", desc := "(I)I" } : Jvm.MethodName)) ∈ TB := TB_2 (i := 57) rfl rfl
theorem a2_58 : (Jvm.Cond.code ({ cls := "TrialDesk", name := "site", desc := "(I)I" } : Jvm.MethodName) prog_1_method_3_code (2 : Nat) (Option.some Jvm.ClassFile.FieldType.int)) ∈ TB := TB_2 (i := 58) rfl rfl
theorem a2_59 : (Jvm.Cond.instantiable "TrialDesk$Site" (6 : Nat)) ∈ TB := TB_2 (i := 59) rfl rfl
theorem a2_60 : (Jvm.Cond.methodLink "TrialDesk" (89 : Nat) ({ cls := "TrialDesk$Site", name := "<init>", desc := "()V" } : Jvm.MethodName)) ∈ TB := TB_2 (i := 60) rfl rfl
theorem a2_61 : (Jvm.Cond.instanceMethod ({ cls := "TrialDesk$Site", name := "<init>", desc := "()V" } : Jvm.MethodName)) ∈ TB := TB_2 (i := 61) rfl rfl
theorem a2_62 : (Jvm.Cond.code ({ cls := "TrialDesk$Site", name := "<init>", desc := "()V" } : Jvm.MethodName) prog_6_method_1_code (2 : Nat) (Option.none : Option Jvm.ClassFile.FieldType)) ∈ TB := TB_2 (i := 62) rfl rfl
theorem a2_63 : (Jvm.Cond.methodLink "TrialDesk$Site" (3 : Nat) ({ cls := "java/lang/Object", name := "<init>", desc := "()V" } : Jvm.MethodName)) ∈ TB := TB_2 (i := 63) rfl rfl
theorem a2_64 : (Jvm.Cond.classLink "TrialDesk$Site" (24 : Nat) "TrialDesk$Reserve") ∈ TB := TB_2 (i := 64) rfl rfl
theorem a2_65 : (Jvm.Cond.arrayOver (Jvm.ClassFile.FieldType.object "TrialDesk$Reserve")) ∈ TB := TB_2 (i := 65) rfl rfl
theorem a2_66 : (Jvm.Cond.instantiable "TrialDesk$Reserve" (3 : Nat)) ∈ TB := TB_2 (i := 66) rfl rfl
theorem a2_67 : (Jvm.Cond.methodLinkNest "TrialDesk$Site" (30 : Nat) ({ cls := "TrialDesk$Reserve", name := "<init>", desc := "()V" } : Jvm.MethodName) "TrialDesk") ∈ TB := TB_2 (i := 67) rfl rfl
theorem a2_68 : (Jvm.Cond.instanceMethod ({ cls := "TrialDesk$Reserve", name := "<init>", desc := "()V" } : Jvm.MethodName)) ∈ TB := TB_2 (i := 68) rfl rfl
theorem a2_69 : (Jvm.Cond.code ({ cls := "TrialDesk$Reserve", name := "<init>", desc := "()V" } : Jvm.MethodName) prog_4_method_1_code (1 : Nat) (Option.none : Option Jvm.ClassFile.FieldType)) ∈ TB := TB_2 (i := 69) rfl rfl
theorem a2_70 : (Jvm.Cond.methodLink "TrialDesk$Reserve" (3 : Nat) ({ cls := "java/lang/Object", name := "<init>", desc := "()V" } : Jvm.MethodName)) ∈ TB := TB_2 (i := 70) rfl rfl
theorem a2_71 : (Jvm.Cond.fieldLink "TrialDesk$Reserve" (9 : Nat) "TrialDesk$Reserve" "entryKits" "[I") ∈ TB := TB_2 (i := 71) rfl rfl
theorem a2_72 : (Jvm.Cond.fieldLink "TrialDesk$Reserve" (15 : Nat) "TrialDesk$Reserve" "length" "I") ∈ TB := TB_2 (i := 72) rfl rfl
theorem a2_73 : (Jvm.Cond.fieldLinkNest "TrialDesk" (159 : Nat) "TrialDesk$Reserve" "length" "I" "TrialDesk") ∈ TB := TB_2 (i := 73) rfl rfl
theorem a2_74 : (Jvm.Cond.fieldLinkNest "TrialDesk$Site" (48 : Nat) "TrialDesk$Reserve" "length" "I" "TrialDesk") ∈ TB := TB_2 (i := 74) rfl rfl
theorem a2_75 : (Jvm.Cond.fieldLink "TrialDesk$Reserve" (19 : Nat) "TrialDesk$Reserve" "next" "I") ∈ TB := TB_2 (i := 75) rfl rfl
theorem a2_76 : (Jvm.Cond.fieldLinkNest "TrialDesk" (184 : Nat) "TrialDesk$Reserve" "next" "I" "TrialDesk") ∈ TB := TB_2 (i := 76) rfl rfl
theorem a2_77 : (Jvm.Cond.fieldLinkNest "TrialDesk$Site" (52 : Nat) "TrialDesk$Reserve" "next" "I" "TrialDesk") ∈ TB := TB_2 (i := 77) rfl rfl
theorem a2_78 : (Jvm.Cond.laysFinal "TrialDesk$Reserve" "TrialDesk$Reserve" "entryKits" "[I") ∈ TB := TB_2 (i := 78) rfl rfl
theorem a2_80 : (Jvm.Cond.lays "TrialDesk$Reserve" "TrialDesk$Reserve" "length" "I") ∈ TB := TB_2 (i := 80) rfl rfl
theorem a2_82 : (Jvm.Cond.lays "TrialDesk$Reserve" "TrialDesk$Reserve" "next" "I") ∈ TB := TB_2 (i := 82) rfl rfl
theorem a2_84 : (Jvm.Cond.superclass "TrialDesk$Reserve" "java/lang/Object") ∈ TB := TB_2 (i := 84) rfl rfl
theorem a2_85 : (Jvm.Cond.fieldLink "TrialDesk$Site" (9 : Nat) "TrialDesk$Site" "standing" "[I") ∈ TB := TB_2 (i := 85) rfl rfl
theorem a2_86 : (Jvm.Cond.fieldLink "TrialDesk$Site" (15 : Nat) "TrialDesk$Site" "inStratum" "[I") ∈ TB := TB_2 (i := 86) rfl rfl
theorem a2_87 : (Jvm.Cond.fieldLink "TrialDesk$Site" (18 : Nat) "TrialDesk$Site" "withArm" "[I") ∈ TB := TB_2 (i := 87) rfl rfl
theorem a2_88 : (Jvm.Cond.fieldLink "TrialDesk$Site" (21 : Nat) "TrialDesk$Site" "keyHolders" "[I") ∈ TB := TB_2 (i := 88) rfl rfl
theorem a2_89 : (Jvm.Cond.fieldLink "TrialDesk$Site" (26 : Nat) "TrialDesk$Site" "reserves" "[LTrialDesk$Reserve;") ∈ TB := TB_2 (i := 89) rfl rfl
theorem a2_90 : (Jvm.Cond.fieldLinkNest "TrialDesk" (110 : Nat) "TrialDesk$Site" "closed" "Z" "TrialDesk") ∈ TB := TB_2 (i := 90) rfl rfl
theorem a2_91 : (Jvm.Cond.laysFinal "TrialDesk$Site" "TrialDesk$Site" "standing" "[I") ∈ TB := TB_2 (i := 91) rfl rfl
theorem a2_93 : (Jvm.Cond.laysFinal "TrialDesk$Site" "TrialDesk$Site" "inStratum" "[I") ∈ TB := TB_2 (i := 93) rfl rfl
theorem a2_95 : (Jvm.Cond.laysFinal "TrialDesk$Site" "TrialDesk$Site" "withArm" "[I") ∈ TB := TB_2 (i := 95) rfl rfl
theorem a2_97 : (Jvm.Cond.laysFinal "TrialDesk$Site" "TrialDesk$Site" "keyHolders" "[I") ∈ TB := TB_2 (i := 97) rfl rfl
theorem a2_99 : (Jvm.Cond.laysFinal "TrialDesk$Site" "TrialDesk$Site" "reserves" "[LTrialDesk$Reserve;") ∈ TB := TB_2 (i := 99) rfl rfl
theorem a2_101 : (Jvm.Cond.lays "TrialDesk$Site" "TrialDesk$Site" "closed" "Z") ∈ TB := TB_2 (i := 101) rfl rfl
theorem a2_103 : (Jvm.Cond.superclass "TrialDesk$Site" "java/lang/Object") ∈ TB := TB_2 (i := 103) rfl rfl
theorem a2_104 : (Jvm.Cond.methodLink "TrialDeskLaw" (94 : Nat) ({ cls := "TrialDeskLaw", name := "kits", desc := "(LTrialDesk;IIII[J)I" } : Jvm.MethodName)) ∈ TB := TB_2 (i := 104) rfl rfl
theorem a2_105 : (Jvm.Cond.static ({ cls := "TrialDeskLaw", name := "kits", desc := "(LTrialDesk;IIII[J)I" } : Jvm.MethodName)) ∈ TB := TB_2 (i := 105) rfl rfl
theorem a2_106 : (Jvm.Cond.codeWith ({ cls := "TrialDeskLaw", name := "kits", desc := "(LTrialDesk;IIII[J)I" } : Jvm.MethodName) method_5_code (7 : Nat) (Option.some Jvm.ClassFile.FieldType.int) [((0 : Nat), (14 : Nat), (17 : Nat), (21 : Nat)), ((0 : Nat), (14 : Nat), (21 : Nat), (15 : Nat)), ((0 : Nat), (14 : Nat), (25 : Nat), (13 : Nat))]) ∈ TB := TB_2 (i := 106) rfl rfl
theorem a2_107 : (Jvm.Cond.methodLink "TrialDeskLaw" (23 : Nat) ({ cls := "TrialDesk", name := "kits", desc := "(IIII)I" } : Jvm.MethodName)) ∈ TB := TB_2 (i := 107) rfl rfl
theorem a2_108 : (Jvm.Cond.instanceMethod ({ cls := "TrialDesk", name := "kits", desc := "(IIII)I" } : Jvm.MethodName)) ∈ TB := TB_2 (i := 108) rfl rfl
theorem a2_109 : (Jvm.Cond.selects "TrialDesk" ({ cls := "TrialDesk", name := "kits", desc := "(IIII)I" } : Jvm.MethodName) ({ cls := "TrialDesk", name := "kits", desc := "(IIII)I" } : Jvm.MethodName)) ∈ TB := TB_2 (i := 109) rfl rfl
theorem a2_110 : (Jvm.Cond.code ({ cls := "TrialDesk", name := "kits", desc := "(IIII)I" } : Jvm.MethodName) prog_1_method_4_code (6 : Nat) (Option.some Jvm.ClassFile.FieldType.int)) ∈ TB := TB_2 (i := 110) rfl rfl
theorem a2_111 : (Jvm.Cond.methodLink "TrialDesk" (94 : Nat) ({ cls := "TrialDesk", name := "siteAt", desc := "(I)LTrialDesk$Site;" } : Jvm.MethodName)) ∈ TB := TB_2 (i := 111) rfl rfl
theorem a2_113 : (Jvm.Cond.instanceMethod ({ cls := "TrialDesk", name := "siteAt", desc := "(I)LTrialDesk$Site;" } : Jvm.MethodName)) ∈ TB := TB_2 (i := 113) rfl rfl
theorem a2_114 : (Jvm.Cond.code ({ cls := "TrialDesk", name := "siteAt", desc := "(I)LTrialDesk$Site;" } : Jvm.MethodName) prog_1_method_25_code (2 : Nat) (Option.some (Jvm.ClassFile.FieldType.object "TrialDesk$Site"))) ∈ TB := TB_2 (i := 114) rfl rfl
theorem a2_115 : (Jvm.Cond.methodLink "TrialDesk" (98 : Nat) ({ cls := "TrialDesk", name := "needArm", desc := "(I)V" } : Jvm.MethodName)) ∈ TB := TB_2 (i := 115) rfl rfl
theorem a2_117 : (Jvm.Cond.instanceMethod ({ cls := "TrialDesk", name := "needArm", desc := "(I)V" } : Jvm.MethodName)) ∈ TB := TB_2 (i := 117) rfl rfl
theorem a2_118 : (Jvm.Cond.code ({ cls := "TrialDesk", name := "needArm", desc := "(I)V" } : Jvm.MethodName) prog_1_method_27_code (3 : Nat) (Option.none : Option Jvm.ClassFile.FieldType)) ∈ TB := TB_2 (i := 118) rfl rfl
theorem a2_119 : (Jvm.Cond.methodLink "TrialDesk" (102 : Nat) ({ cls := "TrialDesk", name := "needKit", desc := "(I)V" } : Jvm.MethodName)) ∈ TB := TB_2 (i := 119) rfl rfl
theorem a2_120 : (Jvm.Cond.static ({ cls := "TrialDesk", name := "needKit", desc := "(I)V" } : Jvm.MethodName)) ∈ TB := TB_2 (i := 120) rfl rfl
theorem a2_121 : (Jvm.Cond.code ({ cls := "TrialDesk", name := "needKit", desc := "(I)V" } : Jvm.MethodName) prog_1_method_28_code (1 : Nat) (Option.none : Option Jvm.ClassFile.FieldType)) ∈ TB := TB_2 (i := 121) rfl rfl
theorem a2_122 : (Jvm.Cond.constantLong "TrialDesk" (105 : Nat) (1000 : Int64)) ∈ TB := TB_2 (i := 122) rfl rfl
theorem a2_123 : (Jvm.Cond.methodLink "TrialDesk" (107 : Nat) ({ cls := "TrialDesk", name := "needPlan", desc := "()V" } : Jvm.MethodName)) ∈ TB := TB_2 (i := 123) rfl rfl
theorem a2_125 : (Jvm.Cond.instanceMethod ({ cls := "TrialDesk", name := "needPlan", desc := "()V" } : Jvm.MethodName)) ∈ TB := TB_2 (i := 125) rfl rfl
theorem a2_126 : (Jvm.Cond.code ({ cls := "TrialDesk", name := "needPlan", desc := "()V" } : Jvm.MethodName) prog_1_method_31_code (1 : Nat) (Option.none : Option Jvm.ClassFile.FieldType)) ∈ TB := TB_2 (i := 126) rfl rfl
theorem a2_127 : (Jvm.Cond.methodLink "TrialDesk" (113 : Nat) ({ cls := "TrialDesk$Shelf", name := "hasAny", desc := "(II)Z" } : Jvm.MethodName)) ∈ TB := TB_2 (i := 127) rfl rfl
theorem a2_128 : (Jvm.Cond.instanceMethod ({ cls := "TrialDesk$Shelf", name := "hasAny", desc := "(II)Z" } : Jvm.MethodName)) ∈ TB := TB_2 (i := 128) rfl rfl
theorem a2_129 : (Jvm.Cond.selects "TrialDesk$Shelf" ({ cls := "TrialDesk$Shelf", name := "hasAny", desc := "(II)Z" } : Jvm.MethodName) ({ cls := "TrialDesk$Shelf", name := "hasAny", desc := "(II)Z" } : Jvm.MethodName)) ∈ TB := TB_2 (i := 129) rfl rfl
theorem a2_130 : (Jvm.Cond.code ({ cls := "TrialDesk$Shelf", name := "hasAny", desc := "(II)Z" } : Jvm.MethodName) prog_5_method_2_code (4 : Nat) (Option.some Jvm.ClassFile.FieldType.boolean)) ∈ TB := TB_2 (i := 130) rfl rfl
theorem a2_131 : (Jvm.Cond.methodLink "TrialDesk$Shelf" (24 : Nat) ({ cls := "TrialDesk$Shelf", name := "isKit", desc := "(I)Z" } : Jvm.MethodName)) ∈ TB := TB_2 (i := 131) rfl rfl
theorem a2_132 : (Jvm.Cond.static ({ cls := "TrialDesk$Shelf", name := "isKit", desc := "(I)Z" } : Jvm.MethodName)) ∈ TB := TB_2 (i := 132) rfl rfl
theorem a2_133 : (Jvm.Cond.code ({ cls := "TrialDesk$Shelf", name := "isKit", desc := "(I)Z" } : Jvm.MethodName) prog_5_method_13_code (1 : Nat) (Option.some Jvm.ClassFile.FieldType.boolean)) ∈ TB := TB_2 (i := 133) rfl rfl
theorem a2_134 : (Jvm.Cond.methodLink "TrialDesk" (116 : Nat) ({ cls := "TrialDesk$Shelf", name := "put", desc := "(IIII)V" } : Jvm.MethodName)) ∈ TB := TB_2 (i := 134) rfl rfl
theorem a2_135 : (Jvm.Cond.instanceMethod ({ cls := "TrialDesk$Shelf", name := "put", desc := "(IIII)V" } : Jvm.MethodName)) ∈ TB := TB_2 (i := 135) rfl rfl
theorem a2_136 : (Jvm.Cond.selects "TrialDesk$Shelf" ({ cls := "TrialDesk$Shelf", name := "put", desc := "(IIII)V" } : Jvm.MethodName) ({ cls := "TrialDesk$Shelf", name := "put", desc := "(IIII)V" } : Jvm.MethodName)) ∈ TB := TB_2 (i := 136) rfl rfl
theorem a2_137 : (Jvm.Cond.code ({ cls := "TrialDesk$Shelf", name := "put", desc := "(IIII)V" } : Jvm.MethodName) prog_5_method_3_code (6 : Nat) (Option.none : Option Jvm.ClassFile.FieldType)) ∈ TB := TB_2 (i := 137) rfl rfl
theorem a2_138 : (Jvm.Cond.methodLink "TrialDesk" (120 : Nat) ({ cls := "TrialDesk$Shelf", name := "tallyFree", desc := "(II)I" } : Jvm.MethodName)) ∈ TB := TB_2 (i := 138) rfl rfl
theorem a2_139 : (Jvm.Cond.instanceMethod ({ cls := "TrialDesk$Shelf", name := "tallyFree", desc := "(II)I" } : Jvm.MethodName)) ∈ TB := TB_2 (i := 139) rfl rfl
theorem a2_140 : (Jvm.Cond.selects "TrialDesk$Shelf" ({ cls := "TrialDesk$Shelf", name := "tallyFree", desc := "(II)I" } : Jvm.MethodName) ({ cls := "TrialDesk$Shelf", name := "tallyFree", desc := "(II)I" } : Jvm.MethodName)) ∈ TB := TB_2 (i := 140) rfl rfl
theorem a2_141 : (Jvm.Cond.code ({ cls := "TrialDesk$Shelf", name := "tallyFree", desc := "(II)I" } : Jvm.MethodName) prog_5_method_5_code (5 : Nat) (Option.some Jvm.ClassFile.FieldType.int)) ∈ TB := TB_2 (i := 141) rfl rfl
theorem a2_142 : (Jvm.Cond.methodLink "TrialDesk$Shelf" (28 : Nat) ({ cls := "TrialDesk$Shelf", name := "isFree", desc := "(III)Z" } : Jvm.MethodName)) ∈ TB := TB_2 (i := 142) rfl rfl
theorem a2_144 : (Jvm.Cond.instanceMethod ({ cls := "TrialDesk$Shelf", name := "isFree", desc := "(III)Z" } : Jvm.MethodName)) ∈ TB := TB_2 (i := 144) rfl rfl
theorem a2_145 : (Jvm.Cond.code ({ cls := "TrialDesk$Shelf", name := "isFree", desc := "(III)Z" } : Jvm.MethodName) prog_5_method_12_code (4 : Nat) (Option.some Jvm.ClassFile.FieldType.boolean)) ∈ TB := TB_2 (i := 145) rfl rfl
theorem a2_146 : (Jvm.Cond.methodLink "TrialDeskLaw" (98 : Nat) ({ cls := "TrialDeskLaw", name := "allot", desc := "(LTrialDesk;III[J)I" } : Jvm.MethodName)) ∈ TB := TB_2 (i := 146) rfl rfl
theorem a2_147 : (Jvm.Cond.static ({ cls := "TrialDeskLaw", name := "allot", desc := "(LTrialDesk;III[J)I" } : Jvm.MethodName)) ∈ TB := TB_2 (i := 147) rfl rfl
theorem a2_148 : (Jvm.Cond.codeWith ({ cls := "TrialDeskLaw", name := "allot", desc := "(LTrialDesk;III[J)I" } : Jvm.MethodName) method_6_code (6 : Nat) (Option.some Jvm.ClassFile.FieldType.int) [((0 : Nat), (12 : Nat), (15 : Nat), (21 : Nat)), ((0 : Nat), (12 : Nat), (19 : Nat), (15 : Nat))]) ∈ TB := TB_2 (i := 148) rfl rfl
theorem a2_149 : (Jvm.Cond.methodLink "TrialDeskLaw" (27 : Nat) ({ cls := "TrialDesk", name := "allot", desc := "(III)I" } : Jvm.MethodName)) ∈ TB := TB_2 (i := 149) rfl rfl
theorem a2_150 : (Jvm.Cond.instanceMethod ({ cls := "TrialDesk", name := "allot", desc := "(III)I" } : Jvm.MethodName)) ∈ TB := TB_2 (i := 150) rfl rfl
theorem a2_151 : (Jvm.Cond.selects "TrialDesk" ({ cls := "TrialDesk", name := "allot", desc := "(III)I" } : Jvm.MethodName) ({ cls := "TrialDesk", name := "allot", desc := "(III)I" } : Jvm.MethodName)) ∈ TB := TB_2 (i := 151) rfl rfl
theorem a2_152 : (Jvm.Cond.code ({ cls := "TrialDesk", name := "allot", desc := "(III)I" } : Jvm.MethodName) prog_1_method_5_code (8 : Nat) (Option.some Jvm.ClassFile.FieldType.int)) ∈ TB := TB_2 (i := 152) rfl rfl
theorem a2_153 : (Jvm.Cond.methodLink "TrialDesk" (124 : Nat) ({ cls := "TrialDesk", name := "needPerson", desc := "(I)V" } : Jvm.MethodName)) ∈ TB := TB_2 (i := 153) rfl rfl
theorem a2_154 : (Jvm.Cond.static ({ cls := "TrialDesk", name := "needPerson", desc := "(I)V" } : Jvm.MethodName)) ∈ TB := TB_2 (i := 154) rfl rfl
theorem a2_155 : (Jvm.Cond.code ({ cls := "TrialDesk", name := "needPerson", desc := "(I)V" } : Jvm.MethodName) prog_1_method_29_code (1 : Nat) (Option.none : Option Jvm.ClassFile.FieldType)) ∈ TB := TB_2 (i := 155) rfl rfl
theorem a2_156 : (Jvm.Cond.methodLink "TrialDesk" (130 : Nat) ({ cls := "TrialDesk$Site", name := "isAllotted", desc := "(I)Z" } : Jvm.MethodName)) ∈ TB := TB_2 (i := 156) rfl rfl
theorem a2_157 : (Jvm.Cond.instanceMethod ({ cls := "TrialDesk$Site", name := "isAllotted", desc := "(I)Z" } : Jvm.MethodName)) ∈ TB := TB_2 (i := 157) rfl rfl
theorem a2_158 : (Jvm.Cond.selects "TrialDesk$Site" ({ cls := "TrialDesk$Site", name := "isAllotted", desc := "(I)Z" } : Jvm.MethodName) ({ cls := "TrialDesk$Site", name := "isAllotted", desc := "(I)Z" } : Jvm.MethodName)) ∈ TB := TB_2 (i := 158) rfl rfl
theorem a2_159 : (Jvm.Cond.code ({ cls := "TrialDesk$Site", name := "isAllotted", desc := "(I)Z" } : Jvm.MethodName) prog_6_method_2_code (2 : Nat) (Option.some Jvm.ClassFile.FieldType.boolean)) ∈ TB := TB_2 (i := 159) rfl rfl
theorem a2_160 : (Jvm.Cond.methodLink "TrialDesk$Site" (31 : Nat) ({ cls := "TrialDesk$Site", name := "isPerson", desc := "(I)Z" } : Jvm.MethodName)) ∈ TB := TB_2 (i := 160) rfl rfl
theorem a2_161 : (Jvm.Cond.static ({ cls := "TrialDesk$Site", name := "isPerson", desc := "(I)Z" } : Jvm.MethodName)) ∈ TB := TB_2 (i := 161) rfl rfl
theorem a2_162 : (Jvm.Cond.code ({ cls := "TrialDesk$Site", name := "isPerson", desc := "(I)Z" } : Jvm.MethodName) prog_6_method_13_code (1 : Nat) (Option.some Jvm.ClassFile.FieldType.boolean)) ∈ TB := TB_2 (i := 162) rfl rfl
theorem a2_163 : (Jvm.Cond.methodLink "TrialDesk" (134 : Nat) ({ cls := "TrialDesk$Stratum", name := "nextArm", desc := "()I" } : Jvm.MethodName)) ∈ TB := TB_2 (i := 163) rfl rfl
theorem a2_164 : (Jvm.Cond.instanceMethod ({ cls := "TrialDesk$Stratum", name := "nextArm", desc := "()I" } : Jvm.MethodName)) ∈ TB := TB_2 (i := 164) rfl rfl
theorem a2_165 : (Jvm.Cond.selects "TrialDesk$Stratum" ({ cls := "TrialDesk$Stratum", name := "nextArm", desc := "()I" } : Jvm.MethodName) ({ cls := "TrialDesk$Stratum", name := "nextArm", desc := "()I" } : Jvm.MethodName)) ∈ TB := TB_2 (i := 165) rfl rfl
theorem a2_166 : (Jvm.Cond.code ({ cls := "TrialDesk$Stratum", name := "nextArm", desc := "()I" } : Jvm.MethodName) prog_7_method_3_code (1 : Nat) (Option.some Jvm.ClassFile.FieldType.int)) ∈ TB := TB_2 (i := 166) rfl rfl
theorem a2_167 : (Jvm.Cond.methodLink "TrialDesk$Stratum" (41 : Nat) ({ cls := "TrialDesk$Stratum", name := "armAt", desc := "(I)I" } : Jvm.MethodName)) ∈ TB := TB_2 (i := 167) rfl rfl
theorem a2_169 : (Jvm.Cond.instanceMethod ({ cls := "TrialDesk$Stratum", name := "armAt", desc := "(I)I" } : Jvm.MethodName)) ∈ TB := TB_2 (i := 169) rfl rfl
theorem a2_170 : (Jvm.Cond.code ({ cls := "TrialDesk$Stratum", name := "armAt", desc := "(I)I" } : Jvm.MethodName) prog_7_method_11_code (2 : Nat) (Option.some Jvm.ClassFile.FieldType.int)) ∈ TB := TB_2 (i := 170) rfl rfl
theorem a2_171 : (Jvm.Cond.methodLink "TrialDesk$Stratum" (45 : Nat) ({ cls := "TrialDesk$Stratum", name := "armAhead", desc := "(I)I" } : Jvm.MethodName)) ∈ TB := TB_2 (i := 171) rfl rfl
theorem a2_172 : (Jvm.Cond.instanceMethod ({ cls := "TrialDesk$Stratum", name := "armAhead", desc := "(I)I" } : Jvm.MethodName)) ∈ TB := TB_2 (i := 172) rfl rfl
theorem a2_173 : (Jvm.Cond.selects "TrialDesk$Stratum" ({ cls := "TrialDesk$Stratum", name := "armAhead", desc := "(I)I" } : Jvm.MethodName) ({ cls := "TrialDesk$Stratum", name := "armAhead", desc := "(I)I" } : Jvm.MethodName)) ∈ TB := TB_2 (i := 173) rfl rfl
theorem a2_174 : (Jvm.Cond.code ({ cls := "TrialDesk$Stratum", name := "armAhead", desc := "(I)I" } : Jvm.MethodName) prog_7_method_4_code (2 : Nat) (Option.some Jvm.ClassFile.FieldType.int)) ∈ TB := TB_2 (i := 174) rfl rfl
theorem a2_175 : (Jvm.Cond.methodLink "TrialDesk$Stratum" (51 : Nat) ({ cls := "TrialDesk$Stratum", name := "build", desc := "()V" } : Jvm.MethodName)) ∈ TB := TB_2 (i := 175) rfl rfl
theorem a2_177 : (Jvm.Cond.instanceMethod ({ cls := "TrialDesk$Stratum", name := "build", desc := "()V" } : Jvm.MethodName)) ∈ TB := TB_2 (i := 177) rfl rfl
theorem a2_178 : (Jvm.Cond.code ({ cls := "TrialDesk$Stratum", name := "build", desc := "()V" } : Jvm.MethodName) prog_7_method_12_code (2 : Nat) (Option.none : Option Jvm.ClassFile.FieldType)) ∈ TB := TB_2 (i := 178) rfl rfl
theorem a2_179 : (Jvm.Cond.methodLink "TrialDesk$Stratum" (81 : Nat) ({ cls := "TrialDesk$Stratum", name := "makeRoom", desc := "(I)V" } : Jvm.MethodName)) ∈ TB := TB_2 (i := 179) rfl rfl
theorem a2_181 : (Jvm.Cond.instanceMethod ({ cls := "TrialDesk$Stratum", name := "makeRoom", desc := "(I)V" } : Jvm.MethodName)) ∈ TB := TB_2 (i := 181) rfl rfl
theorem a2_182 : (Jvm.Cond.code ({ cls := "TrialDesk$Stratum", name := "makeRoom", desc := "(I)V" } : Jvm.MethodName) prog_7_method_13_code (2 : Nat) (Option.none : Option Jvm.ClassFile.FieldType)) ∈ TB := TB_2 (i := 182) rfl rfl
theorem a2_183 : (Jvm.Cond.methodLink "TrialDesk$Stratum" (77 : Nat) ({ cls := "java/lang/Math", name := "max", desc := "(II)I" } : Jvm.MethodName)) ∈ TB := TB_2 (i := 183) rfl rfl
theorem a2_184 : (Jvm.Cond.static ({ cls := "java/lang/Math", name := "max", desc := "(II)I" } : Jvm.MethodName)) ∈ TB := TB_2 (i := 184) rfl rfl
theorem a2_185 : (Jvm.Cond.code ({ cls := "java/lang/Math", name := "max", desc := "(II)I" } : Jvm.MethodName) prog_16_method_65_code (2 : Nat) (Option.some Jvm.ClassFile.FieldType.int)) ∈ TB := TB_2 (i := 185) rfl rfl
theorem a2_186 : (Jvm.Cond.methodLink "TrialDesk$Stratum" (91 : Nat) ({ cls := "java/util/Arrays", name := "copyOf", desc := "([II)[I" } : Jvm.MethodName)) ∈ TB := TB_2 (i := 186) rfl rfl
theorem a2_187 : (Jvm.Cond.static ({ cls := "java/util/Arrays", name := "copyOf", desc := "([II)[I" } : Jvm.MethodName)) ∈ TB := TB_2 (i := 187) rfl rfl
theorem a2_188 : (Jvm.Cond.code ({ cls := "java/util/Arrays", name := "copyOf", desc := "([II)[I" } : Jvm.MethodName) prog_20_method_123_code (3 : Nat) (Option.some (Jvm.ClassFile.FieldType.array Jvm.ClassFile.FieldType.int))) ∈ TB := TB_2 (i := 188) rfl rfl
theorem a2_189 : (Jvm.Cond.methodLink "java/util/Arrays" (316 : Nat) ({ cls := "[I", name := "clone", desc := "()Ljava/lang/Object;" } : Jvm.MethodName)) ∈ TB := TB_2 (i := 189) rfl rfl
theorem a2_190 : (Jvm.Cond.sameMethod "[I" "java/lang/Object" "clone" "()Ljava/lang/Object;") ∈ TB := TB_2 (i := 190) rfl rfl
theorem a2_191 : (Jvm.Cond.native ({ cls := "java/lang/Object", name := "clone", desc := "()Ljava/lang/Object;" } : Jvm.MethodName)) ∈ TB := TB_2 (i := 191) rfl rfl
theorem a2_192 : (Jvm.Cond.instanceMethod ({ cls := "java/lang/Object", name := "clone", desc := "()Ljava/lang/Object;" } : Jvm.MethodName)) ∈ TB := TB_2 (i := 192) rfl rfl
theorem a2_193 : (Jvm.Cond.selects "[I" ({ cls := "[I", name := "clone", desc := "()Ljava/lang/Object;" } : Jvm.MethodName) ({ cls := "java/lang/Object", name := "clone", desc := "()Ljava/lang/Object;" } : Jvm.MethodName)) ∈ TB := TB_2 (i := 193) rfl rfl
theorem a2_194 : (Jvm.Cond.castable "[I" "java/lang/Cloneable") ∈ TB := TB_2 (i := 194) rfl rfl
theorem a2_195 : (Jvm.Cond.classLink "java/util/Arrays" (317 : Nat) "[I") ∈ TB := TB_2 (i := 195) rfl rfl
theorem a2_196 : (Jvm.Cond.methodLink "java/util/Arrays" (304 : Nat) ({ cls := "java/lang/Math", name := "min", desc := "(II)I" } : Jvm.MethodName)) ∈ TB := TB_2 (i := 196) rfl rfl
theorem a2_197 : (Jvm.Cond.static ({ cls := "java/lang/Math", name := "min", desc := "(II)I" } : Jvm.MethodName)) ∈ TB := TB_2 (i := 197) rfl rfl
theorem a2_198 : (Jvm.Cond.code ({ cls := "java/lang/Math", name := "min", desc := "(II)I" } : Jvm.MethodName) prog_16_method_69_code (2 : Nat) (Option.some Jvm.ClassFile.FieldType.int)) ∈ TB := TB_2 (i := 198) rfl rfl
theorem a2_199 : (Jvm.Cond.methodLink "java/util/Arrays" (150 : Nat) ({ cls := "java/lang/System", name := "arraycopy", desc := "(Ljava/lang/Object;ILjava/lang/Object;II)V" } : Jvm.MethodName)) ∈ TB := TB_2 (i := 199) rfl rfl
theorem a2_200 : (Jvm.Cond.static ({ cls := "java/lang/System", name := "arraycopy", desc := "(Ljava/lang/Object;ILjava/lang/Object;II)V" } : Jvm.MethodName)) ∈ TB := TB_2 (i := 200) rfl rfl
theorem a2_201 : (Jvm.Cond.native ({ cls := "java/lang/System", name := "arraycopy", desc := "(Ljava/lang/Object;ILjava/lang/Object;II)V" } : Jvm.MethodName)) ∈ TB := TB_2 (i := 201) rfl rfl
theorem a2_202 : (Jvm.Cond.methodLink "TrialDesk$Stratum" (85 : Nat) ({ cls := "TrialDesk$Stratum", name := "layArms", desc := "(I)V" } : Jvm.MethodName)) ∈ TB := TB_2 (i := 202) rfl rfl
theorem a2_204 : (Jvm.Cond.instanceMethod ({ cls := "TrialDesk$Stratum", name := "layArms", desc := "(I)V" } : Jvm.MethodName)) ∈ TB := TB_2 (i := 204) rfl rfl
theorem a2_205 : (Jvm.Cond.code ({ cls := "TrialDesk$Stratum", name := "layArms", desc := "(I)V" } : Jvm.MethodName) prog_7_method_14_code (5 : Nat) (Option.none : Option Jvm.ClassFile.FieldType)) ∈ TB := TB_2 (i := 205) rfl rfl
theorem a2_206 : (Jvm.Cond.methodLink "TrialDesk$Stratum" (97 : Nat) ({ cls := "TrialDesk$Plan", name := "entriesOf", desc := "(I)I" } : Jvm.MethodName)) ∈ TB := TB_2 (i := 206) rfl rfl
theorem a2_207 : (Jvm.Cond.instanceMethod ({ cls := "TrialDesk$Plan", name := "entriesOf", desc := "(I)I" } : Jvm.MethodName)) ∈ TB := TB_2 (i := 207) rfl rfl
theorem a2_208 : (Jvm.Cond.selects "TrialDesk$Plan" ({ cls := "TrialDesk$Plan", name := "entriesOf", desc := "(I)I" } : Jvm.MethodName) ({ cls := "TrialDesk$Plan", name := "entriesOf", desc := "(I)I" } : Jvm.MethodName)) ∈ TB := TB_2 (i := 208) rfl rfl
theorem a2_209 : (Jvm.Cond.code ({ cls := "TrialDesk$Plan", name := "entriesOf", desc := "(I)I" } : Jvm.MethodName) prog_3_method_4_code (2 : Nat) (Option.some Jvm.ClassFile.FieldType.int)) ∈ TB := TB_2 (i := 209) rfl rfl
theorem a2_210 : (Jvm.Cond.methodLink "TrialDesk$Plan" (25 : Nat) ({ cls := "TrialDesk$Plan", name := "weightOf", desc := "(I)I" } : Jvm.MethodName)) ∈ TB := TB_2 (i := 210) rfl rfl
theorem a2_211 : (Jvm.Cond.instanceMethod ({ cls := "TrialDesk$Plan", name := "weightOf", desc := "(I)I" } : Jvm.MethodName)) ∈ TB := TB_2 (i := 211) rfl rfl
theorem a2_212 : (Jvm.Cond.selects "TrialDesk$Plan" ({ cls := "TrialDesk$Plan", name := "weightOf", desc := "(I)I" } : Jvm.MethodName) ({ cls := "TrialDesk$Plan", name := "weightOf", desc := "(I)I" } : Jvm.MethodName)) ∈ TB := TB_2 (i := 212) rfl rfl
theorem a2_213 : (Jvm.Cond.code ({ cls := "TrialDesk$Plan", name := "weightOf", desc := "(I)I" } : Jvm.MethodName) prog_3_method_3_code (2 : Nat) (Option.some Jvm.ClassFile.FieldType.int)) ∈ TB := TB_2 (i := 213) rfl rfl
theorem a2_214 : (Jvm.Cond.methodLink "TrialDesk$Stratum" (88 : Nat) ({ cls := "TrialDesk$Stratum", name := "shuffle", desc := "(I)V" } : Jvm.MethodName)) ∈ TB := TB_2 (i := 214) rfl rfl
theorem a2_216 : (Jvm.Cond.instanceMethod ({ cls := "TrialDesk$Stratum", name := "shuffle", desc := "(I)V" } : Jvm.MethodName)) ∈ TB := TB_2 (i := 216) rfl rfl
theorem a2_217 : (Jvm.Cond.code ({ cls := "TrialDesk$Stratum", name := "shuffle", desc := "(I)V" } : Jvm.MethodName) prog_7_method_15_code (3 : Nat) (Option.none : Option Jvm.ClassFile.FieldType)) ∈ TB := TB_2 (i := 217) rfl rfl
theorem a2_218 : (Jvm.Cond.methodLink "TrialDesk$Stratum" (100 : Nat) ({ cls := "TrialDesk$Stratum", name := "draw", desc := "(I)I" } : Jvm.MethodName)) ∈ TB := TB_2 (i := 218) rfl rfl
theorem a2_220 : (Jvm.Cond.instanceMethod ({ cls := "TrialDesk$Stratum", name := "draw", desc := "(I)I" } : Jvm.MethodName)) ∈ TB := TB_2 (i := 220) rfl rfl
theorem a2_221 : (Jvm.Cond.code ({ cls := "TrialDesk$Stratum", name := "draw", desc := "(I)I" } : Jvm.MethodName) prog_7_method_17_code (7 : Nat) (Option.some Jvm.ClassFile.FieldType.int)) ∈ TB := TB_2 (i := 221) rfl rfl
theorem a2_222 : (Jvm.Cond.constantLong "TrialDesk$Stratum" (107 : Nat) (2147483648 : Int64)) ∈ TB := TB_2 (i := 222) rfl rfl
theorem a2_223 : (Jvm.Cond.constant "TrialDesk$Stratum" (109 : Nat) (1000000 : Int32)) ∈ TB := TB_2 (i := 223) rfl rfl
theorem a2_224 : (Jvm.Cond.methodLink "TrialDesk$Stratum" (103 : Nat) ({ cls := "TrialDesk$Stratum", name := "swap", desc := "(II)V" } : Jvm.MethodName)) ∈ TB := TB_2 (i := 224) rfl rfl
theorem a2_226 : (Jvm.Cond.instanceMethod ({ cls := "TrialDesk$Stratum", name := "swap", desc := "(II)V" } : Jvm.MethodName)) ∈ TB := TB_2 (i := 226) rfl rfl
theorem a2_227 : (Jvm.Cond.code ({ cls := "TrialDesk$Stratum", name := "swap", desc := "(II)V" } : Jvm.MethodName) prog_7_method_16_code (4 : Nat) (Option.none : Option Jvm.ClassFile.FieldType)) ∈ TB := TB_2 (i := 227) rfl rfl
theorem a2_228 : (Jvm.Cond.methodLink "TrialDesk" (138 : Nat) ({ cls := "TrialDesk$Shelf", name := "leastFree", desc := "(III)I" } : Jvm.MethodName)) ∈ TB := TB_2 (i := 228) rfl rfl
theorem a2_229 : (Jvm.Cond.instanceMethod ({ cls := "TrialDesk$Shelf", name := "leastFree", desc := "(III)I" } : Jvm.MethodName)) ∈ TB := TB_2 (i := 229) rfl rfl
theorem a2_230 : (Jvm.Cond.selects "TrialDesk$Shelf" ({ cls := "TrialDesk$Shelf", name := "leastFree", desc := "(III)I" } : Jvm.MethodName) ({ cls := "TrialDesk$Shelf", name := "leastFree", desc := "(III)I" } : Jvm.MethodName)) ∈ TB := TB_2 (i := 230) rfl rfl
theorem a2_231 : (Jvm.Cond.code ({ cls := "TrialDesk$Shelf", name := "leastFree", desc := "(III)I" } : Jvm.MethodName) prog_5_method_6_code (5 : Nat) (Option.some Jvm.ClassFile.FieldType.int)) ∈ TB := TB_2 (i := 231) rfl rfl
theorem a2_232 : (Jvm.Cond.methodLink "TrialDesk$Shelf" (32 : Nat) ({ cls := "java/lang/Math", name := "max", desc := "(II)I" } : Jvm.MethodName)) ∈ TB := TB_2 (i := 232) rfl rfl
theorem a2_233 : (Jvm.Cond.methodLink "TrialDesk" (142 : Nat) ({ cls := "TrialDesk$Stratum", name := "takeEntry", desc := "()V" } : Jvm.MethodName)) ∈ TB := TB_2 (i := 233) rfl rfl
theorem a2_234 : (Jvm.Cond.instanceMethod ({ cls := "TrialDesk$Stratum", name := "takeEntry", desc := "()V" } : Jvm.MethodName)) ∈ TB := TB_2 (i := 234) rfl rfl
theorem a2_235 : (Jvm.Cond.selects "TrialDesk$Stratum" ({ cls := "TrialDesk$Stratum", name := "takeEntry", desc := "()V" } : Jvm.MethodName) ({ cls := "TrialDesk$Stratum", name := "takeEntry", desc := "()V" } : Jvm.MethodName)) ∈ TB := TB_2 (i := 235) rfl rfl
theorem a2_236 : (Jvm.Cond.code ({ cls := "TrialDesk$Stratum", name := "takeEntry", desc := "()V" } : Jvm.MethodName) prog_7_method_6_code (1 : Nat) (Option.none : Option Jvm.ClassFile.FieldType)) ∈ TB := TB_2 (i := 236) rfl rfl
theorem a2_237 : (Jvm.Cond.methodLink "TrialDesk$Stratum" (59 : Nat) ({ cls := "TrialDesk$Stratum", name := "takeBlock", desc := "()I" } : Jvm.MethodName)) ∈ TB := TB_2 (i := 237) rfl rfl
theorem a2_238 : (Jvm.Cond.instanceMethod ({ cls := "TrialDesk$Stratum", name := "takeBlock", desc := "()I" } : Jvm.MethodName)) ∈ TB := TB_2 (i := 238) rfl rfl
theorem a2_239 : (Jvm.Cond.selects "TrialDesk$Stratum" ({ cls := "TrialDesk$Stratum", name := "takeBlock", desc := "()I" } : Jvm.MethodName) ({ cls := "TrialDesk$Stratum", name := "takeBlock", desc := "()I" } : Jvm.MethodName)) ∈ TB := TB_2 (i := 239) rfl rfl
theorem a3_0 : (Jvm.Cond.code ({ cls := "TrialDesk$Stratum", name := "takeBlock", desc := "()I" } : Jvm.MethodName) prog_7_method_7_code (1 : Nat) (Option.some Jvm.ClassFile.FieldType.int)) ∈ TB := TB_3 (i := 0) rfl rfl
theorem a3_1 : (Jvm.Cond.methodLink "TrialDesk" (145 : Nat) ({ cls := "TrialDesk$Stratum", name := "addKnown", desc := "(I)V" } : Jvm.MethodName)) ∈ TB := TB_3 (i := 1) rfl rfl
theorem a3_2 : (Jvm.Cond.instanceMethod ({ cls := "TrialDesk$Stratum", name := "addKnown", desc := "(I)V" } : Jvm.MethodName)) ∈ TB := TB_3 (i := 2) rfl rfl
theorem a3_3 : (Jvm.Cond.selects "TrialDesk$Stratum" ({ cls := "TrialDesk$Stratum", name := "addKnown", desc := "(I)V" } : Jvm.MethodName) ({ cls := "TrialDesk$Stratum", name := "addKnown", desc := "(I)V" } : Jvm.MethodName)) ∈ TB := TB_3 (i := 3) rfl rfl
theorem a3_4 : (Jvm.Cond.code ({ cls := "TrialDesk$Stratum", name := "addKnown", desc := "(I)V" } : Jvm.MethodName) prog_7_method_8_code (2 : Nat) (Option.none : Option Jvm.ClassFile.FieldType)) ∈ TB := TB_3 (i := 4) rfl rfl
theorem a3_5 : (Jvm.Cond.methodLink "TrialDesk" (148 : Nat) ({ cls := "TrialDesk$Shelf", name := "use", desc := "(II)V" } : Jvm.MethodName)) ∈ TB := TB_3 (i := 5) rfl rfl
theorem a3_6 : (Jvm.Cond.instanceMethod ({ cls := "TrialDesk$Shelf", name := "use", desc := "(II)V" } : Jvm.MethodName)) ∈ TB := TB_3 (i := 6) rfl rfl
theorem a3_7 : (Jvm.Cond.selects "TrialDesk$Shelf" ({ cls := "TrialDesk$Shelf", name := "use", desc := "(II)V" } : Jvm.MethodName) ({ cls := "TrialDesk$Shelf", name := "use", desc := "(II)V" } : Jvm.MethodName)) ∈ TB := TB_3 (i := 7) rfl rfl
theorem a3_8 : (Jvm.Cond.code ({ cls := "TrialDesk$Shelf", name := "use", desc := "(II)V" } : Jvm.MethodName) prog_5_method_7_code (3 : Nat) (Option.none : Option Jvm.ClassFile.FieldType)) ∈ TB := TB_3 (i := 8) rfl rfl
theorem a3_9 : (Jvm.Cond.methodLink "TrialDesk" (152 : Nat) ({ cls := "TrialDesk$Site", name := "enrol", desc := "(IIII)V" } : Jvm.MethodName)) ∈ TB := TB_3 (i := 9) rfl rfl
theorem a3_10 : (Jvm.Cond.instanceMethod ({ cls := "TrialDesk$Site", name := "enrol", desc := "(IIII)V" } : Jvm.MethodName)) ∈ TB := TB_3 (i := 10) rfl rfl
theorem a3_11 : (Jvm.Cond.selects "TrialDesk$Site" ({ cls := "TrialDesk$Site", name := "enrol", desc := "(IIII)V" } : Jvm.MethodName) ({ cls := "TrialDesk$Site", name := "enrol", desc := "(IIII)V" } : Jvm.MethodName)) ∈ TB := TB_3 (i := 11) rfl rfl
theorem a3_12 : (Jvm.Cond.code ({ cls := "TrialDesk$Site", name := "enrol", desc := "(IIII)V" } : Jvm.MethodName) prog_6_method_4_code (5 : Nat) (Option.none : Option Jvm.ClassFile.FieldType)) ∈ TB := TB_3 (i := 12) rfl rfl
theorem a3_13 : (Jvm.Cond.methodLink "TrialDeskLaw" (102 : Nat) ({ cls := "TrialDeskLaw", name := "reserve", desc := "(LTrialDesk;II[J)I" } : Jvm.MethodName)) ∈ TB := TB_3 (i := 13) rfl rfl
theorem a3_14 : (Jvm.Cond.static ({ cls := "TrialDeskLaw", name := "reserve", desc := "(LTrialDesk;II[J)I" } : Jvm.MethodName)) ∈ TB := TB_3 (i := 14) rfl rfl
theorem a3_15 : (Jvm.Cond.codeWith ({ cls := "TrialDeskLaw", name := "reserve", desc := "(LTrialDesk;II[J)I" } : Jvm.MethodName) method_7_code (5 : Nat) (Option.some Jvm.ClassFile.FieldType.int) [((0 : Nat), (10 : Nat), (13 : Nat), (21 : Nat)), ((0 : Nat), (10 : Nat), (17 : Nat), (15 : Nat))]) ∈ TB := TB_3 (i := 15) rfl rfl
theorem a3_16 : (Jvm.Cond.methodLink "TrialDeskLaw" (31 : Nat) ({ cls := "TrialDesk", name := "reserve", desc := "(II)I" } : Jvm.MethodName)) ∈ TB := TB_3 (i := 16) rfl rfl
theorem a3_17 : (Jvm.Cond.instanceMethod ({ cls := "TrialDesk", name := "reserve", desc := "(II)I" } : Jvm.MethodName)) ∈ TB := TB_3 (i := 17) rfl rfl
theorem a3_18 : (Jvm.Cond.selects "TrialDesk" ({ cls := "TrialDesk", name := "reserve", desc := "(II)I" } : Jvm.MethodName) ({ cls := "TrialDesk", name := "reserve", desc := "(II)I" } : Jvm.MethodName)) ∈ TB := TB_3 (i := 18) rfl rfl
theorem a3_19 : (Jvm.Cond.code ({ cls := "TrialDesk", name := "reserve", desc := "(II)I" } : Jvm.MethodName) prog_1_method_6_code (6 : Nat) (Option.some Jvm.ClassFile.FieldType.int)) ∈ TB := TB_3 (i := 19) rfl rfl
theorem a3_20 : (Jvm.Cond.methodLink "TrialDesk" (155 : Nat) ({ cls := "TrialDesk$Site", name := "reserveFor", desc := "(I)LTrialDesk$Reserve;" } : Jvm.MethodName)) ∈ TB := TB_3 (i := 20) rfl rfl
theorem a3_21 : (Jvm.Cond.instanceMethod ({ cls := "TrialDesk$Site", name := "reserveFor", desc := "(I)LTrialDesk$Reserve;" } : Jvm.MethodName)) ∈ TB := TB_3 (i := 21) rfl rfl
theorem a3_22 : (Jvm.Cond.selects "TrialDesk$Site" ({ cls := "TrialDesk$Site", name := "reserveFor", desc := "(I)LTrialDesk$Reserve;" } : Jvm.MethodName) ({ cls := "TrialDesk$Site", name := "reserveFor", desc := "(I)LTrialDesk$Reserve;" } : Jvm.MethodName)) ∈ TB := TB_3 (i := 22) rfl rfl
theorem a3_23 : (Jvm.Cond.code ({ cls := "TrialDesk$Site", name := "reserveFor", desc := "(I)LTrialDesk$Reserve;" } : Jvm.MethodName) prog_6_method_10_code (2 : Nat) (Option.some (Jvm.ClassFile.FieldType.object "TrialDesk$Reserve"))) ∈ TB := TB_3 (i := 23) rfl rfl
theorem a3_24 : (Jvm.Cond.classLink "TrialDesk$Site" (41 : Nat) "java/lang/IndexOutOfBoundsException") ∈ TB := TB_3 (i := 24) rfl rfl
theorem a3_25 : (Jvm.Cond.methodLink "TrialDesk$Site" (43 : Nat) ({ cls := "java/lang/IndexOutOfBoundsException", name := "<init>", desc := "()V" } : Jvm.MethodName)) ∈ TB := TB_3 (i := 25) rfl rfl
theorem a3_26 : (Jvm.Cond.methodLink "TrialDesk" (164 : Nat) ({ cls := "TrialDesk", name := "pickKits", desc := "(ILTrialDesk$Stratum;)Z" } : Jvm.MethodName)) ∈ TB := TB_3 (i := 26) rfl rfl
theorem a3_28 : (Jvm.Cond.instanceMethod ({ cls := "TrialDesk", name := "pickKits", desc := "(ILTrialDesk$Stratum;)Z" } : Jvm.MethodName)) ∈ TB := TB_3 (i := 28) rfl rfl
theorem a3_29 : (Jvm.Cond.code ({ cls := "TrialDesk", name := "pickKits", desc := "(ILTrialDesk$Stratum;)Z" } : Jvm.MethodName) prog_1_method_32_code (6 : Nat) (Option.some Jvm.ClassFile.FieldType.boolean)) ∈ TB := TB_3 (i := 29) rfl rfl
theorem a3_30 : (Jvm.Cond.methodLink "TrialDesk" (249 : Nat) ({ cls := "TrialDesk$Stratum", name := "armAhead", desc := "(I)I" } : Jvm.MethodName)) ∈ TB := TB_3 (i := 30) rfl rfl
theorem a3_31 : (Jvm.Cond.methodLink "TrialDesk" (171 : Nat) ({ cls := "TrialDesk$Reserve", name := "fill", desc := "([II)V" } : Jvm.MethodName)) ∈ TB := TB_3 (i := 31) rfl rfl
theorem a3_32 : (Jvm.Cond.instanceMethod ({ cls := "TrialDesk$Reserve", name := "fill", desc := "([II)V" } : Jvm.MethodName)) ∈ TB := TB_3 (i := 32) rfl rfl
theorem a3_33 : (Jvm.Cond.selects "TrialDesk$Reserve" ({ cls := "TrialDesk$Reserve", name := "fill", desc := "([II)V" } : Jvm.MethodName) ({ cls := "TrialDesk$Reserve", name := "fill", desc := "([II)V" } : Jvm.MethodName)) ∈ TB := TB_3 (i := 33) rfl rfl
theorem a3_34 : (Jvm.Cond.code ({ cls := "TrialDesk$Reserve", name := "fill", desc := "([II)V" } : Jvm.MethodName) prog_4_method_2_code (4 : Nat) (Option.none : Option Jvm.ClassFile.FieldType)) ∈ TB := TB_3 (i := 34) rfl rfl
theorem a3_35 : (Jvm.Cond.methodLink "TrialDesk" (175 : Nat) ({ cls := "TrialDesk$Shelf", name := "markAll", desc := "([II)V" } : Jvm.MethodName)) ∈ TB := TB_3 (i := 35) rfl rfl
theorem a3_36 : (Jvm.Cond.instanceMethod ({ cls := "TrialDesk$Shelf", name := "markAll", desc := "([II)V" } : Jvm.MethodName)) ∈ TB := TB_3 (i := 36) rfl rfl
theorem a3_37 : (Jvm.Cond.selects "TrialDesk$Shelf" ({ cls := "TrialDesk$Shelf", name := "markAll", desc := "([II)V" } : Jvm.MethodName) ({ cls := "TrialDesk$Shelf", name := "markAll", desc := "([II)V" } : Jvm.MethodName)) ∈ TB := TB_3 (i := 37) rfl rfl
theorem a3_38 : (Jvm.Cond.code ({ cls := "TrialDesk$Shelf", name := "markAll", desc := "([II)V" } : Jvm.MethodName) prog_5_method_8_code (4 : Nat) (Option.none : Option Jvm.ClassFile.FieldType)) ∈ TB := TB_3 (i := 38) rfl rfl
theorem a3_39 : (Jvm.Cond.methodLink "TrialDesk" (178 : Nat) ({ cls := "TrialDesk$Stratum", name := "takeBlock", desc := "()I" } : Jvm.MethodName)) ∈ TB := TB_3 (i := 39) rfl rfl
theorem a3_40 : (Jvm.Cond.methodLink "TrialDeskLaw" (106 : Nat) ({ cls := "TrialDeskLaw", name := "offline", desc := "(LTrialDesk;III[J)I" } : Jvm.MethodName)) ∈ TB := TB_3 (i := 40) rfl rfl
theorem a3_41 : (Jvm.Cond.static ({ cls := "TrialDeskLaw", name := "offline", desc := "(LTrialDesk;III[J)I" } : Jvm.MethodName)) ∈ TB := TB_3 (i := 41) rfl rfl
theorem a3_42 : (Jvm.Cond.codeWith ({ cls := "TrialDeskLaw", name := "offline", desc := "(LTrialDesk;III[J)I" } : Jvm.MethodName) method_8_code (6 : Nat) (Option.some Jvm.ClassFile.FieldType.int) [((0 : Nat), (12 : Nat), (15 : Nat), (21 : Nat)), ((0 : Nat), (12 : Nat), (19 : Nat), (15 : Nat))]) ∈ TB := TB_3 (i := 42) rfl rfl
theorem a3_43 : (Jvm.Cond.methodLink "TrialDeskLaw" (35 : Nat) ({ cls := "TrialDesk", name := "offline", desc := "(III)I" } : Jvm.MethodName)) ∈ TB := TB_3 (i := 43) rfl rfl
theorem a3_44 : (Jvm.Cond.instanceMethod ({ cls := "TrialDesk", name := "offline", desc := "(III)I" } : Jvm.MethodName)) ∈ TB := TB_3 (i := 44) rfl rfl
theorem a3_45 : (Jvm.Cond.selects "TrialDesk" ({ cls := "TrialDesk", name := "offline", desc := "(III)I" } : Jvm.MethodName) ({ cls := "TrialDesk", name := "offline", desc := "(III)I" } : Jvm.MethodName)) ∈ TB := TB_3 (i := 45) rfl rfl
theorem a3_46 : (Jvm.Cond.code ({ cls := "TrialDesk", name := "offline", desc := "(III)I" } : Jvm.MethodName) prog_1_method_7_code (7 : Nat) (Option.some Jvm.ClassFile.FieldType.int)) ∈ TB := TB_3 (i := 46) rfl rfl
theorem a3_47 : (Jvm.Cond.methodLink "TrialDesk" (181 : Nat) ({ cls := "TrialDesk$Reserve", name := "nextKit", desc := "()I" } : Jvm.MethodName)) ∈ TB := TB_3 (i := 47) rfl rfl
theorem a3_48 : (Jvm.Cond.instanceMethod ({ cls := "TrialDesk$Reserve", name := "nextKit", desc := "()I" } : Jvm.MethodName)) ∈ TB := TB_3 (i := 48) rfl rfl
theorem a3_49 : (Jvm.Cond.selects "TrialDesk$Reserve" ({ cls := "TrialDesk$Reserve", name := "nextKit", desc := "()I" } : Jvm.MethodName) ({ cls := "TrialDesk$Reserve", name := "nextKit", desc := "()I" } : Jvm.MethodName)) ∈ TB := TB_3 (i := 49) rfl rfl
theorem a3_50 : (Jvm.Cond.code ({ cls := "TrialDesk$Reserve", name := "nextKit", desc := "()I" } : Jvm.MethodName) prog_4_method_3_code (1 : Nat) (Option.some Jvm.ClassFile.FieldType.int)) ∈ TB := TB_3 (i := 50) rfl rfl
theorem a3_51 : (Jvm.Cond.methodLink "TrialDesk" (187 : Nat) ({ cls := "TrialDesk$Shelf", name := "armOf", desc := "(I)I" } : Jvm.MethodName)) ∈ TB := TB_3 (i := 51) rfl rfl
theorem a3_52 : (Jvm.Cond.instanceMethod ({ cls := "TrialDesk$Shelf", name := "armOf", desc := "(I)I" } : Jvm.MethodName)) ∈ TB := TB_3 (i := 52) rfl rfl
theorem a3_53 : (Jvm.Cond.selects "TrialDesk$Shelf" ({ cls := "TrialDesk$Shelf", name := "armOf", desc := "(I)I" } : Jvm.MethodName) ({ cls := "TrialDesk$Shelf", name := "armOf", desc := "(I)I" } : Jvm.MethodName)) ∈ TB := TB_3 (i := 53) rfl rfl
theorem a3_54 : (Jvm.Cond.code ({ cls := "TrialDesk$Shelf", name := "armOf", desc := "(I)I" } : Jvm.MethodName) prog_5_method_10_code (2 : Nat) (Option.some Jvm.ClassFile.FieldType.int)) ∈ TB := TB_3 (i := 54) rfl rfl
theorem a3_55 : (Jvm.Cond.methodLink "TrialDeskLaw" (109 : Nat) ({ cls := "TrialDeskLaw", name := "report", desc := "(LTrialDesk;I[J)I" } : Jvm.MethodName)) ∈ TB := TB_3 (i := 55) rfl rfl
theorem a3_56 : (Jvm.Cond.static ({ cls := "TrialDeskLaw", name := "report", desc := "(LTrialDesk;I[J)I" } : Jvm.MethodName)) ∈ TB := TB_3 (i := 56) rfl rfl
theorem a3_57 : (Jvm.Cond.codeWith ({ cls := "TrialDeskLaw", name := "report", desc := "(LTrialDesk;I[J)I" } : Jvm.MethodName) method_9_code (4 : Nat) (Option.some Jvm.ClassFile.FieldType.int) [((0 : Nat), (9 : Nat), (12 : Nat), (21 : Nat))]) ∈ TB := TB_3 (i := 57) rfl rfl
theorem a3_58 : (Jvm.Cond.methodLink "TrialDeskLaw" (38 : Nat) ({ cls := "TrialDesk", name := "report", desc := "(I)I" } : Jvm.MethodName)) ∈ TB := TB_3 (i := 58) rfl rfl
theorem a3_59 : (Jvm.Cond.instanceMethod ({ cls := "TrialDesk", name := "report", desc := "(I)I" } : Jvm.MethodName)) ∈ TB := TB_3 (i := 59) rfl rfl
theorem a3_60 : (Jvm.Cond.selects "TrialDesk" ({ cls := "TrialDesk", name := "report", desc := "(I)I" } : Jvm.MethodName) ({ cls := "TrialDesk", name := "report", desc := "(I)I" } : Jvm.MethodName)) ∈ TB := TB_3 (i := 60) rfl rfl
theorem a3_61 : (Jvm.Cond.code ({ cls := "TrialDesk", name := "report", desc := "(I)I" } : Jvm.MethodName) prog_1_method_8_code (5 : Nat) (Option.some Jvm.ClassFile.FieldType.int)) ∈ TB := TB_3 (i := 61) rfl rfl
theorem a3_62 : (Jvm.Cond.methodLink "TrialDesk" (191 : Nat) ({ cls := "TrialDesk$Site", name := "tell", desc := "(I)Z" } : Jvm.MethodName)) ∈ TB := TB_3 (i := 62) rfl rfl
theorem a3_63 : (Jvm.Cond.instanceMethod ({ cls := "TrialDesk$Site", name := "tell", desc := "(I)Z" } : Jvm.MethodName)) ∈ TB := TB_3 (i := 63) rfl rfl
theorem a3_64 : (Jvm.Cond.selects "TrialDesk$Site" ({ cls := "TrialDesk$Site", name := "tell", desc := "(I)Z" } : Jvm.MethodName) ({ cls := "TrialDesk$Site", name := "tell", desc := "(I)Z" } : Jvm.MethodName)) ∈ TB := TB_3 (i := 64) rfl rfl
theorem a3_65 : (Jvm.Cond.code ({ cls := "TrialDesk$Site", name := "tell", desc := "(I)Z" } : Jvm.MethodName) prog_6_method_5_code (2 : Nat) (Option.some Jvm.ClassFile.FieldType.boolean)) ∈ TB := TB_3 (i := 65) rfl rfl
theorem a3_66 : (Jvm.Cond.methodLink "TrialDesk" (194 : Nat) ({ cls := "TrialDesk$Site", name := "stratumOf", desc := "(I)I" } : Jvm.MethodName)) ∈ TB := TB_3 (i := 66) rfl rfl
theorem a3_67 : (Jvm.Cond.instanceMethod ({ cls := "TrialDesk$Site", name := "stratumOf", desc := "(I)I" } : Jvm.MethodName)) ∈ TB := TB_3 (i := 67) rfl rfl
theorem a3_68 : (Jvm.Cond.selects "TrialDesk$Site" ({ cls := "TrialDesk$Site", name := "stratumOf", desc := "(I)I" } : Jvm.MethodName) ({ cls := "TrialDesk$Site", name := "stratumOf", desc := "(I)I" } : Jvm.MethodName)) ∈ TB := TB_3 (i := 68) rfl rfl
theorem a3_69 : (Jvm.Cond.code ({ cls := "TrialDesk$Site", name := "stratumOf", desc := "(I)I" } : Jvm.MethodName) prog_6_method_6_code (2 : Nat) (Option.some Jvm.ClassFile.FieldType.int)) ∈ TB := TB_3 (i := 69) rfl rfl
theorem a3_70 : (Jvm.Cond.methodLink "TrialDesk" (197 : Nat) ({ cls := "TrialDesk$Site", name := "armOf", desc := "(I)I" } : Jvm.MethodName)) ∈ TB := TB_3 (i := 70) rfl rfl
theorem a3_71 : (Jvm.Cond.instanceMethod ({ cls := "TrialDesk$Site", name := "armOf", desc := "(I)I" } : Jvm.MethodName)) ∈ TB := TB_3 (i := 71) rfl rfl
theorem a3_72 : (Jvm.Cond.selects "TrialDesk$Site" ({ cls := "TrialDesk$Site", name := "armOf", desc := "(I)I" } : Jvm.MethodName) ({ cls := "TrialDesk$Site", name := "armOf", desc := "(I)I" } : Jvm.MethodName)) ∈ TB := TB_3 (i := 72) rfl rfl
theorem a3_73 : (Jvm.Cond.code ({ cls := "TrialDesk$Site", name := "armOf", desc := "(I)I" } : Jvm.MethodName) prog_6_method_7_code (2 : Nat) (Option.some Jvm.ClassFile.FieldType.int)) ∈ TB := TB_3 (i := 73) rfl rfl
theorem a3_74 : (Jvm.Cond.methodLink "TrialDesk" (198 : Nat) ({ cls := "TrialDesk$Site", name := "dropReserves", desc := "()V" } : Jvm.MethodName)) ∈ TB := TB_3 (i := 74) rfl rfl
theorem a3_75 : (Jvm.Cond.instanceMethod ({ cls := "TrialDesk$Site", name := "dropReserves", desc := "()V" } : Jvm.MethodName)) ∈ TB := TB_3 (i := 75) rfl rfl
theorem a3_76 : (Jvm.Cond.selects "TrialDesk$Site" ({ cls := "TrialDesk$Site", name := "dropReserves", desc := "()V" } : Jvm.MethodName) ({ cls := "TrialDesk$Site", name := "dropReserves", desc := "()V" } : Jvm.MethodName)) ∈ TB := TB_3 (i := 76) rfl rfl
theorem a3_77 : (Jvm.Cond.code ({ cls := "TrialDesk$Site", name := "dropReserves", desc := "()V" } : Jvm.MethodName) prog_6_method_12_code (2 : Nat) (Option.none : Option Jvm.ClassFile.FieldType)) ∈ TB := TB_3 (i := 77) rfl rfl
theorem a3_78 : (Jvm.Cond.methodLink "TrialDesk$Site" (44 : Nat) ({ cls := "TrialDesk$Site", name := "reserveFor", desc := "(I)LTrialDesk$Reserve;" } : Jvm.MethodName)) ∈ TB := TB_3 (i := 78) rfl rfl
theorem a3_79 : (Jvm.Cond.methodLink "TrialDesk$Site" (55 : Nat) ({ cls := "TrialDesk$Reserve", name := "drop", desc := "()V" } : Jvm.MethodName)) ∈ TB := TB_3 (i := 79) rfl rfl
theorem a3_80 : (Jvm.Cond.instanceMethod ({ cls := "TrialDesk$Reserve", name := "drop", desc := "()V" } : Jvm.MethodName)) ∈ TB := TB_3 (i := 80) rfl rfl
theorem a3_81 : (Jvm.Cond.selects "TrialDesk$Reserve" ({ cls := "TrialDesk$Reserve", name := "drop", desc := "()V" } : Jvm.MethodName) ({ cls := "TrialDesk$Reserve", name := "drop", desc := "()V" } : Jvm.MethodName)) ∈ TB := TB_3 (i := 81) rfl rfl
theorem a3_82 : (Jvm.Cond.code ({ cls := "TrialDesk$Reserve", name := "drop", desc := "()V" } : Jvm.MethodName) prog_4_method_4_code (1 : Nat) (Option.none : Option Jvm.ClassFile.FieldType)) ∈ TB := TB_3 (i := 82) rfl rfl
theorem a3_83 : (Jvm.Cond.methodLink "TrialDesk" (201 : Nat) ({ cls := "TrialDesk$Shelf", name := "freeMarked", desc := "(I)V" } : Jvm.MethodName)) ∈ TB := TB_3 (i := 83) rfl rfl
theorem a3_84 : (Jvm.Cond.instanceMethod ({ cls := "TrialDesk$Shelf", name := "freeMarked", desc := "(I)V" } : Jvm.MethodName)) ∈ TB := TB_3 (i := 84) rfl rfl
theorem a3_85 : (Jvm.Cond.selects "TrialDesk$Shelf" ({ cls := "TrialDesk$Shelf", name := "freeMarked", desc := "(I)V" } : Jvm.MethodName) ({ cls := "TrialDesk$Shelf", name := "freeMarked", desc := "(I)V" } : Jvm.MethodName)) ∈ TB := TB_3 (i := 85) rfl rfl
theorem a3_86 : (Jvm.Cond.code ({ cls := "TrialDesk$Shelf", name := "freeMarked", desc := "(I)V" } : Jvm.MethodName) prog_5_method_9_code (3 : Nat) (Option.none : Option Jvm.ClassFile.FieldType)) ∈ TB := TB_3 (i := 86) rfl rfl
theorem a3_87 : (Jvm.Cond.methodLink "TrialDeskLaw" (112 : Nat) ({ cls := "TrialDeskLaw", name := "close", desc := "(LTrialDesk;I[J)I" } : Jvm.MethodName)) ∈ TB := TB_3 (i := 87) rfl rfl
theorem a3_88 : (Jvm.Cond.static ({ cls := "TrialDeskLaw", name := "close", desc := "(LTrialDesk;I[J)I" } : Jvm.MethodName)) ∈ TB := TB_3 (i := 88) rfl rfl
theorem a3_89 : (Jvm.Cond.codeWith ({ cls := "TrialDeskLaw", name := "close", desc := "(LTrialDesk;I[J)I" } : Jvm.MethodName) method_10_code (4 : Nat) (Option.some Jvm.ClassFile.FieldType.int) [((0 : Nat), (9 : Nat), (12 : Nat), (21 : Nat))]) ∈ TB := TB_3 (i := 89) rfl rfl
theorem a3_90 : (Jvm.Cond.methodLink "TrialDeskLaw" (41 : Nat) ({ cls := "TrialDesk", name := "close", desc := "(I)I" } : Jvm.MethodName)) ∈ TB := TB_3 (i := 90) rfl rfl
theorem a3_91 : (Jvm.Cond.instanceMethod ({ cls := "TrialDesk", name := "close", desc := "(I)I" } : Jvm.MethodName)) ∈ TB := TB_3 (i := 91) rfl rfl
theorem a3_92 : (Jvm.Cond.selects "TrialDesk" ({ cls := "TrialDesk", name := "close", desc := "(I)I" } : Jvm.MethodName) ({ cls := "TrialDesk", name := "close", desc := "(I)I" } : Jvm.MethodName)) ∈ TB := TB_3 (i := 92) rfl rfl
theorem a3_93 : (Jvm.Cond.code ({ cls := "TrialDesk", name := "close", desc := "(I)I" } : Jvm.MethodName) prog_1_method_9_code (4 : Nat) (Option.some Jvm.ClassFile.FieldType.int)) ∈ TB := TB_3 (i := 93) rfl rfl
theorem a3_94 : (Jvm.Cond.methodLink "TrialDesk" (204 : Nat) ({ cls := "TrialDesk$Site", name := "entriesLeft", desc := "()I" } : Jvm.MethodName)) ∈ TB := TB_3 (i := 94) rfl rfl
theorem a3_95 : (Jvm.Cond.instanceMethod ({ cls := "TrialDesk$Site", name := "entriesLeft", desc := "()I" } : Jvm.MethodName)) ∈ TB := TB_3 (i := 95) rfl rfl
theorem a3_96 : (Jvm.Cond.selects "TrialDesk$Site" ({ cls := "TrialDesk$Site", name := "entriesLeft", desc := "()I" } : Jvm.MethodName) ({ cls := "TrialDesk$Site", name := "entriesLeft", desc := "()I" } : Jvm.MethodName)) ∈ TB := TB_3 (i := 96) rfl rfl
theorem a3_97 : (Jvm.Cond.code ({ cls := "TrialDesk$Site", name := "entriesLeft", desc := "()I" } : Jvm.MethodName) prog_6_method_11_code (4 : Nat) (Option.some Jvm.ClassFile.FieldType.int)) ∈ TB := TB_3 (i := 97) rfl rfl
theorem a3_98 : (Jvm.Cond.methodLink "TrialDeskLaw" (115 : Nat) ({ cls := "TrialDeskLaw", name := "key", desc := "(LTrialDesk;III[J)I" } : Jvm.MethodName)) ∈ TB := TB_3 (i := 98) rfl rfl
theorem a3_99 : (Jvm.Cond.static ({ cls := "TrialDeskLaw", name := "key", desc := "(LTrialDesk;III[J)I" } : Jvm.MethodName)) ∈ TB := TB_3 (i := 99) rfl rfl
theorem a3_100 : (Jvm.Cond.codeWith ({ cls := "TrialDeskLaw", name := "key", desc := "(LTrialDesk;III[J)I" } : Jvm.MethodName) method_11_code (6 : Nat) (Option.some Jvm.ClassFile.FieldType.int) [((0 : Nat), (12 : Nat), (15 : Nat), (21 : Nat))]) ∈ TB := TB_3 (i := 100) rfl rfl
theorem a3_101 : (Jvm.Cond.methodLink "TrialDeskLaw" (44 : Nat) ({ cls := "TrialDesk", name := "key", desc := "(III)I" } : Jvm.MethodName)) ∈ TB := TB_3 (i := 101) rfl rfl
theorem a3_102 : (Jvm.Cond.instanceMethod ({ cls := "TrialDesk", name := "key", desc := "(III)I" } : Jvm.MethodName)) ∈ TB := TB_3 (i := 102) rfl rfl
theorem a3_103 : (Jvm.Cond.selects "TrialDesk" ({ cls := "TrialDesk", name := "key", desc := "(III)I" } : Jvm.MethodName) ({ cls := "TrialDesk", name := "key", desc := "(III)I" } : Jvm.MethodName)) ∈ TB := TB_3 (i := 103) rfl rfl
theorem a3_104 : (Jvm.Cond.code ({ cls := "TrialDesk", name := "key", desc := "(III)I" } : Jvm.MethodName) prog_1_method_10_code (5 : Nat) (Option.some Jvm.ClassFile.FieldType.int)) ∈ TB := TB_3 (i := 104) rfl rfl
theorem a3_105 : (Jvm.Cond.methodLink "TrialDesk" (207 : Nat) ({ cls := "TrialDesk", name := "needHolder", desc := "(I)V" } : Jvm.MethodName)) ∈ TB := TB_3 (i := 105) rfl rfl
theorem a3_106 : (Jvm.Cond.static ({ cls := "TrialDesk", name := "needHolder", desc := "(I)V" } : Jvm.MethodName)) ∈ TB := TB_3 (i := 106) rfl rfl
theorem a3_107 : (Jvm.Cond.code ({ cls := "TrialDesk", name := "needHolder", desc := "(I)V" } : Jvm.MethodName) prog_1_method_30_code (1 : Nat) (Option.none : Option Jvm.ClassFile.FieldType)) ∈ TB := TB_3 (i := 107) rfl rfl
theorem a3_108 : (Jvm.Cond.methodLink "TrialDesk" (210 : Nat) ({ cls := "TrialDesk$Site", name := "addKey", desc := "(II)V" } : Jvm.MethodName)) ∈ TB := TB_3 (i := 108) rfl rfl
theorem a3_109 : (Jvm.Cond.instanceMethod ({ cls := "TrialDesk$Site", name := "addKey", desc := "(II)V" } : Jvm.MethodName)) ∈ TB := TB_3 (i := 109) rfl rfl
theorem a3_110 : (Jvm.Cond.selects "TrialDesk$Site" ({ cls := "TrialDesk$Site", name := "addKey", desc := "(II)V" } : Jvm.MethodName) ({ cls := "TrialDesk$Site", name := "addKey", desc := "(II)V" } : Jvm.MethodName)) ∈ TB := TB_3 (i := 110) rfl rfl
theorem a3_111 : (Jvm.Cond.code ({ cls := "TrialDesk$Site", name := "addKey", desc := "(II)V" } : Jvm.MethodName) prog_6_method_8_code (3 : Nat) (Option.none : Option Jvm.ClassFile.FieldType)) ∈ TB := TB_3 (i := 111) rfl rfl
theorem a3_112 : (Jvm.Cond.methodLink "TrialDesk" (213 : Nat) ({ cls := "TrialDesk$Site", name := "keyCount", desc := "(I)I" } : Jvm.MethodName)) ∈ TB := TB_3 (i := 112) rfl rfl
theorem a3_113 : (Jvm.Cond.instanceMethod ({ cls := "TrialDesk$Site", name := "keyCount", desc := "(I)I" } : Jvm.MethodName)) ∈ TB := TB_3 (i := 113) rfl rfl
theorem a3_114 : (Jvm.Cond.selects "TrialDesk$Site" ({ cls := "TrialDesk$Site", name := "keyCount", desc := "(I)I" } : Jvm.MethodName) ({ cls := "TrialDesk$Site", name := "keyCount", desc := "(I)I" } : Jvm.MethodName)) ∈ TB := TB_3 (i := 114) rfl rfl
theorem a3_115 : (Jvm.Cond.code ({ cls := "TrialDesk$Site", name := "keyCount", desc := "(I)I" } : Jvm.MethodName) prog_6_method_9_code (2 : Nat) (Option.some Jvm.ClassFile.FieldType.int)) ∈ TB := TB_3 (i := 115) rfl rfl
theorem a3_116 : (Jvm.Cond.methodLink "TrialDesk$Site" (35 : Nat) ({ cls := "java/lang/Integer", name := "bitCount", desc := "(I)I" } : Jvm.MethodName)) ∈ TB := TB_3 (i := 116) rfl rfl
theorem a3_117 : (Jvm.Cond.static ({ cls := "java/lang/Integer", name := "bitCount", desc := "(I)I" } : Jvm.MethodName)) ∈ TB := TB_3 (i := 117) rfl rfl
theorem a3_118 : (Jvm.Cond.code ({ cls := "java/lang/Integer", name := "bitCount", desc := "(I)I" } : Jvm.MethodName) prog_15_method_49_code (1 : Nat) (Option.some Jvm.ClassFile.FieldType.int)) ∈ TB := TB_3 (i := 118) rfl rfl
theorem a3_119 : (Jvm.Cond.constant "java/lang/Integer" (265 : Nat) (1431655765 : Int32)) ∈ TB := TB_3 (i := 119) rfl rfl
theorem a3_120 : (Jvm.Cond.constant "java/lang/Integer" (266 : Nat) (858993459 : Int32)) ∈ TB := TB_3 (i := 120) rfl rfl
theorem a3_121 : (Jvm.Cond.constant "java/lang/Integer" (267 : Nat) (252645135 : Int32)) ∈ TB := TB_3 (i := 121) rfl rfl
theorem a3_122 : (Jvm.Cond.methodLink "TrialDeskLaw" (118 : Nat) ({ cls := "TrialDeskLaw", name := "arm", desc := "(LTrialDesk;II[J)I" } : Jvm.MethodName)) ∈ TB := TB_3 (i := 122) rfl rfl
theorem a3_123 : (Jvm.Cond.static ({ cls := "TrialDeskLaw", name := "arm", desc := "(LTrialDesk;II[J)I" } : Jvm.MethodName)) ∈ TB := TB_3 (i := 123) rfl rfl
theorem a3_124 : (Jvm.Cond.codeWith ({ cls := "TrialDeskLaw", name := "arm", desc := "(LTrialDesk;II[J)I" } : Jvm.MethodName) method_12_code (5 : Nat) (Option.some Jvm.ClassFile.FieldType.int) [((0 : Nat), (10 : Nat), (13 : Nat), (21 : Nat))]) ∈ TB := TB_3 (i := 124) rfl rfl
theorem a3_125 : (Jvm.Cond.methodLink "TrialDeskLaw" (47 : Nat) ({ cls := "TrialDesk", name := "arm", desc := "(II)I" } : Jvm.MethodName)) ∈ TB := TB_3 (i := 125) rfl rfl
theorem a3_126 : (Jvm.Cond.instanceMethod ({ cls := "TrialDesk", name := "arm", desc := "(II)I" } : Jvm.MethodName)) ∈ TB := TB_3 (i := 126) rfl rfl
theorem a3_127 : (Jvm.Cond.selects "TrialDesk" ({ cls := "TrialDesk", name := "arm", desc := "(II)I" } : Jvm.MethodName) ({ cls := "TrialDesk", name := "arm", desc := "(II)I" } : Jvm.MethodName)) ∈ TB := TB_3 (i := 127) rfl rfl
theorem a3_128 : (Jvm.Cond.code ({ cls := "TrialDesk", name := "arm", desc := "(II)I" } : Jvm.MethodName) prog_1_method_11_code (5 : Nat) (Option.some Jvm.ClassFile.FieldType.int)) ∈ TB := TB_3 (i := 128) rfl rfl
theorem a3_129 : (Jvm.Cond.methodLink "TrialDesk" (216 : Nat) ({ cls := "TrialDesk$Site", name := "isKnown", desc := "(I)Z" } : Jvm.MethodName)) ∈ TB := TB_3 (i := 129) rfl rfl
theorem a3_130 : (Jvm.Cond.instanceMethod ({ cls := "TrialDesk$Site", name := "isKnown", desc := "(I)Z" } : Jvm.MethodName)) ∈ TB := TB_3 (i := 130) rfl rfl
theorem a3_131 : (Jvm.Cond.selects "TrialDesk$Site" ({ cls := "TrialDesk$Site", name := "isKnown", desc := "(I)Z" } : Jvm.MethodName) ({ cls := "TrialDesk$Site", name := "isKnown", desc := "(I)Z" } : Jvm.MethodName)) ∈ TB := TB_3 (i := 131) rfl rfl
theorem a3_132 : (Jvm.Cond.code ({ cls := "TrialDesk$Site", name := "isKnown", desc := "(I)Z" } : Jvm.MethodName) prog_6_method_3_code (2 : Nat) (Option.some Jvm.ClassFile.FieldType.boolean)) ∈ TB := TB_3 (i := 132) rfl rfl
theorem a3_133 : (Jvm.Cond.methodLink "TrialDeskLaw" (121 : Nat) ({ cls := "TrialDeskLaw", name := "open", desc := "(LTrialDesk;II[J)I" } : Jvm.MethodName)) ∈ TB := TB_3 (i := 133) rfl rfl
theorem a3_134 : (Jvm.Cond.static ({ cls := "TrialDeskLaw", name := "open", desc := "(LTrialDesk;II[J)I" } : Jvm.MethodName)) ∈ TB := TB_3 (i := 134) rfl rfl
theorem a3_135 : (Jvm.Cond.codeWith ({ cls := "TrialDeskLaw", name := "open", desc := "(LTrialDesk;II[J)I" } : Jvm.MethodName) method_13_code (5 : Nat) (Option.some Jvm.ClassFile.FieldType.int) [((0 : Nat), (10 : Nat), (13 : Nat), (21 : Nat))]) ∈ TB := TB_3 (i := 135) rfl rfl
theorem a3_136 : (Jvm.Cond.methodLink "TrialDeskLaw" (50 : Nat) ({ cls := "TrialDesk", name := "open", desc := "(II)I" } : Jvm.MethodName)) ∈ TB := TB_3 (i := 136) rfl rfl
theorem a3_137 : (Jvm.Cond.instanceMethod ({ cls := "TrialDesk", name := "open", desc := "(II)I" } : Jvm.MethodName)) ∈ TB := TB_3 (i := 137) rfl rfl
theorem a3_138 : (Jvm.Cond.selects "TrialDesk" ({ cls := "TrialDesk", name := "open", desc := "(II)I" } : Jvm.MethodName) ({ cls := "TrialDesk", name := "open", desc := "(II)I" } : Jvm.MethodName)) ∈ TB := TB_3 (i := 138) rfl rfl
theorem a3_139 : (Jvm.Cond.code ({ cls := "TrialDesk", name := "open", desc := "(II)I" } : Jvm.MethodName) prog_1_method_12_code (3 : Nat) (Option.some Jvm.ClassFile.FieldType.int)) ∈ TB := TB_3 (i := 139) rfl rfl
theorem a3_140 : (Jvm.Cond.methodLink "TrialDeskLaw" (124 : Nat) ({ cls := "TrialDeskLaw", name := "count", desc := "(LTrialDesk;II[J)I" } : Jvm.MethodName)) ∈ TB := TB_3 (i := 140) rfl rfl
theorem a3_141 : (Jvm.Cond.static ({ cls := "TrialDeskLaw", name := "count", desc := "(LTrialDesk;II[J)I" } : Jvm.MethodName)) ∈ TB := TB_3 (i := 141) rfl rfl
theorem a3_142 : (Jvm.Cond.codeWith ({ cls := "TrialDeskLaw", name := "count", desc := "(LTrialDesk;II[J)I" } : Jvm.MethodName) method_14_code (5 : Nat) (Option.some Jvm.ClassFile.FieldType.int) [((0 : Nat), (10 : Nat), (13 : Nat), (21 : Nat)), ((0 : Nat), (10 : Nat), (17 : Nat), (15 : Nat))]) ∈ TB := TB_3 (i := 142) rfl rfl
theorem a3_143 : (Jvm.Cond.methodLink "TrialDeskLaw" (53 : Nat) ({ cls := "TrialDesk", name := "count", desc := "(II)I" } : Jvm.MethodName)) ∈ TB := TB_3 (i := 143) rfl rfl
theorem a3_144 : (Jvm.Cond.instanceMethod ({ cls := "TrialDesk", name := "count", desc := "(II)I" } : Jvm.MethodName)) ∈ TB := TB_3 (i := 144) rfl rfl
theorem a3_145 : (Jvm.Cond.selects "TrialDesk" ({ cls := "TrialDesk", name := "count", desc := "(II)I" } : Jvm.MethodName) ({ cls := "TrialDesk", name := "count", desc := "(II)I" } : Jvm.MethodName)) ∈ TB := TB_3 (i := 145) rfl rfl
theorem a3_146 : (Jvm.Cond.code ({ cls := "TrialDesk", name := "count", desc := "(II)I" } : Jvm.MethodName) prog_1_method_13_code (4 : Nat) (Option.some Jvm.ClassFile.FieldType.int)) ∈ TB := TB_3 (i := 146) rfl rfl
theorem a3_147 : (Jvm.Cond.methodLink "TrialDesk" (219 : Nat) ({ cls := "TrialDesk$Stratum", name := "knownWith", desc := "(I)I" } : Jvm.MethodName)) ∈ TB := TB_3 (i := 147) rfl rfl
theorem a3_148 : (Jvm.Cond.instanceMethod ({ cls := "TrialDesk$Stratum", name := "knownWith", desc := "(I)I" } : Jvm.MethodName)) ∈ TB := TB_3 (i := 148) rfl rfl
theorem a3_149 : (Jvm.Cond.selects "TrialDesk$Stratum" ({ cls := "TrialDesk$Stratum", name := "knownWith", desc := "(I)I" } : Jvm.MethodName) ({ cls := "TrialDesk$Stratum", name := "knownWith", desc := "(I)I" } : Jvm.MethodName)) ∈ TB := TB_3 (i := 149) rfl rfl
theorem a3_150 : (Jvm.Cond.code ({ cls := "TrialDesk$Stratum", name := "knownWith", desc := "(I)I" } : Jvm.MethodName) prog_7_method_9_code (2 : Nat) (Option.some Jvm.ClassFile.FieldType.int)) ∈ TB := TB_3 (i := 150) rfl rfl
theorem a3_151 : (Jvm.Cond.methodLink "TrialDeskLaw" (127 : Nat) ({ cls := "TrialDeskLaw", name := "spread", desc := "(LTrialDesk;I[J)I" } : Jvm.MethodName)) ∈ TB := TB_3 (i := 151) rfl rfl
theorem a3_152 : (Jvm.Cond.static ({ cls := "TrialDeskLaw", name := "spread", desc := "(LTrialDesk;I[J)I" } : Jvm.MethodName)) ∈ TB := TB_3 (i := 152) rfl rfl
theorem a3_153 : (Jvm.Cond.codeWith ({ cls := "TrialDeskLaw", name := "spread", desc := "(LTrialDesk;I[J)I" } : Jvm.MethodName) method_15_code (4 : Nat) (Option.some Jvm.ClassFile.FieldType.int) [((0 : Nat), (9 : Nat), (12 : Nat), (21 : Nat)), ((0 : Nat), (9 : Nat), (15 : Nat), (15 : Nat))]) ∈ TB := TB_3 (i := 153) rfl rfl
theorem a3_154 : (Jvm.Cond.methodLink "TrialDeskLaw" (56 : Nat) ({ cls := "TrialDesk", name := "spread", desc := "(I)I" } : Jvm.MethodName)) ∈ TB := TB_3 (i := 154) rfl rfl
theorem a3_155 : (Jvm.Cond.instanceMethod ({ cls := "TrialDesk", name := "spread", desc := "(I)I" } : Jvm.MethodName)) ∈ TB := TB_3 (i := 155) rfl rfl
theorem a3_156 : (Jvm.Cond.selects "TrialDesk" ({ cls := "TrialDesk", name := "spread", desc := "(I)I" } : Jvm.MethodName) ({ cls := "TrialDesk", name := "spread", desc := "(I)I" } : Jvm.MethodName)) ∈ TB := TB_3 (i := 156) rfl rfl
theorem a3_157 : (Jvm.Cond.code ({ cls := "TrialDesk", name := "spread", desc := "(I)I" } : Jvm.MethodName) prog_1_method_14_code (3 : Nat) (Option.some Jvm.ClassFile.FieldType.int)) ∈ TB := TB_3 (i := 157) rfl rfl
theorem a3_158 : (Jvm.Cond.methodLink "TrialDesk" (222 : Nat) ({ cls := "TrialDesk$Stratum", name := "widestGap", desc := "()I" } : Jvm.MethodName)) ∈ TB := TB_3 (i := 158) rfl rfl
theorem a3_159 : (Jvm.Cond.instanceMethod ({ cls := "TrialDesk$Stratum", name := "widestGap", desc := "()I" } : Jvm.MethodName)) ∈ TB := TB_3 (i := 159) rfl rfl
theorem a3_160 : (Jvm.Cond.selects "TrialDesk$Stratum" ({ cls := "TrialDesk$Stratum", name := "widestGap", desc := "()I" } : Jvm.MethodName) ({ cls := "TrialDesk$Stratum", name := "widestGap", desc := "()I" } : Jvm.MethodName)) ∈ TB := TB_3 (i := 160) rfl rfl
theorem a3_161 : (Jvm.Cond.code ({ cls := "TrialDesk$Stratum", name := "widestGap", desc := "()I" } : Jvm.MethodName) prog_7_method_10_code (5 : Nat) (Option.some Jvm.ClassFile.FieldType.int)) ∈ TB := TB_3 (i := 161) rfl rfl
theorem a3_162 : (Jvm.Cond.methodLink "TrialDesk$Stratum" (66 : Nat) ({ cls := "TrialDesk$Stratum", name := "knownWith", desc := "(I)I" } : Jvm.MethodName)) ∈ TB := TB_3 (i := 162) rfl rfl
theorem a3_163 : (Jvm.Cond.methodLink "TrialDesk$Stratum" (69 : Nat) ({ cls := "TrialDesk$Plan", name := "weightOf", desc := "(I)I" } : Jvm.MethodName)) ∈ TB := TB_3 (i := 163) rfl rfl
theorem a3_164 : (Jvm.Cond.methodLink "TrialDesk$Stratum" (72 : Nat) ({ cls := "java/lang/Math", name := "abs", desc := "(I)I" } : Jvm.MethodName)) ∈ TB := TB_3 (i := 164) rfl rfl
theorem a3_165 : (Jvm.Cond.static ({ cls := "java/lang/Math", name := "abs", desc := "(I)I" } : Jvm.MethodName)) ∈ TB := TB_3 (i := 165) rfl rfl
theorem a3_166 : (Jvm.Cond.code ({ cls := "java/lang/Math", name := "abs", desc := "(I)I" } : Jvm.MethodName) prog_16_method_59_code (1 : Nat) (Option.some Jvm.ClassFile.FieldType.int)) ∈ TB := TB_3 (i := 166) rfl rfl
theorem a3_167 : (Jvm.Cond.methodLink "TrialDeskLaw" (130 : Nat) ({ cls := "TrialDeskLaw", name := "entry", desc := "(LTrialDesk;II[J)I" } : Jvm.MethodName)) ∈ TB := TB_3 (i := 167) rfl rfl
theorem a3_168 : (Jvm.Cond.static ({ cls := "TrialDeskLaw", name := "entry", desc := "(LTrialDesk;II[J)I" } : Jvm.MethodName)) ∈ TB := TB_3 (i := 168) rfl rfl
theorem a3_169 : (Jvm.Cond.codeWith ({ cls := "TrialDeskLaw", name := "entry", desc := "(LTrialDesk;II[J)I" } : Jvm.MethodName) method_16_code (5 : Nat) (Option.some Jvm.ClassFile.FieldType.int) [((0 : Nat), (10 : Nat), (13 : Nat), (21 : Nat))]) ∈ TB := TB_3 (i := 169) rfl rfl
theorem a3_170 : (Jvm.Cond.methodLink "TrialDeskLaw" (59 : Nat) ({ cls := "TrialDesk", name := "entry", desc := "(II)I" } : Jvm.MethodName)) ∈ TB := TB_3 (i := 170) rfl rfl
theorem a3_171 : (Jvm.Cond.instanceMethod ({ cls := "TrialDesk", name := "entry", desc := "(II)I" } : Jvm.MethodName)) ∈ TB := TB_3 (i := 171) rfl rfl
theorem a3_172 : (Jvm.Cond.selects "TrialDesk" ({ cls := "TrialDesk", name := "entry", desc := "(II)I" } : Jvm.MethodName) ({ cls := "TrialDesk", name := "entry", desc := "(II)I" } : Jvm.MethodName)) ∈ TB := TB_3 (i := 172) rfl rfl
theorem a3_173 : (Jvm.Cond.code ({ cls := "TrialDesk", name := "entry", desc := "(II)I" } : Jvm.MethodName) prog_1_method_15_code (4 : Nat) (Option.some Jvm.ClassFile.FieldType.int)) ∈ TB := TB_3 (i := 173) rfl rfl
theorem a3_174 : (Jvm.Cond.methodLink "TrialDesk" (225 : Nat) ({ cls := "TrialDesk$Stratum", name := "takenArm", desc := "(I)I" } : Jvm.MethodName)) ∈ TB := TB_3 (i := 174) rfl rfl
theorem a3_175 : (Jvm.Cond.instanceMethod ({ cls := "TrialDesk$Stratum", name := "takenArm", desc := "(I)I" } : Jvm.MethodName)) ∈ TB := TB_3 (i := 175) rfl rfl
theorem a3_176 : (Jvm.Cond.selects "TrialDesk$Stratum" ({ cls := "TrialDesk$Stratum", name := "takenArm", desc := "(I)I" } : Jvm.MethodName) ({ cls := "TrialDesk$Stratum", name := "takenArm", desc := "(I)I" } : Jvm.MethodName)) ∈ TB := TB_3 (i := 176) rfl rfl
theorem a3_177 : (Jvm.Cond.code ({ cls := "TrialDesk$Stratum", name := "takenArm", desc := "(I)I" } : Jvm.MethodName) prog_7_method_5_code (2 : Nat) (Option.some Jvm.ClassFile.FieldType.int)) ∈ TB := TB_3 (i := 177) rfl rfl
theorem a3_178 : (Jvm.Cond.methodLink "TrialDeskLaw" (133 : Nat) ({ cls := "TrialDeskLaw", name := "blocks", desc := "(LTrialDesk;I[J)I" } : Jvm.MethodName)) ∈ TB := TB_3 (i := 178) rfl rfl
theorem a3_179 : (Jvm.Cond.static ({ cls := "TrialDeskLaw", name := "blocks", desc := "(LTrialDesk;I[J)I" } : Jvm.MethodName)) ∈ TB := TB_3 (i := 179) rfl rfl
theorem a3_180 : (Jvm.Cond.codeWith ({ cls := "TrialDeskLaw", name := "blocks", desc := "(LTrialDesk;I[J)I" } : Jvm.MethodName) method_17_code (4 : Nat) (Option.some Jvm.ClassFile.FieldType.int) [((0 : Nat), (9 : Nat), (12 : Nat), (21 : Nat))]) ∈ TB := TB_3 (i := 180) rfl rfl
theorem a3_181 : (Jvm.Cond.methodLink "TrialDeskLaw" (62 : Nat) ({ cls := "TrialDesk", name := "blocks", desc := "(I)I" } : Jvm.MethodName)) ∈ TB := TB_3 (i := 181) rfl rfl
theorem a3_182 : (Jvm.Cond.instanceMethod ({ cls := "TrialDesk", name := "blocks", desc := "(I)I" } : Jvm.MethodName)) ∈ TB := TB_3 (i := 182) rfl rfl
theorem a3_183 : (Jvm.Cond.selects "TrialDesk" ({ cls := "TrialDesk", name := "blocks", desc := "(I)I" } : Jvm.MethodName) ({ cls := "TrialDesk", name := "blocks", desc := "(I)I" } : Jvm.MethodName)) ∈ TB := TB_3 (i := 183) rfl rfl
theorem a3_184 : (Jvm.Cond.code ({ cls := "TrialDesk", name := "blocks", desc := "(I)I" } : Jvm.MethodName) prog_1_method_16_code (2 : Nat) (Option.some Jvm.ClassFile.FieldType.int)) ∈ TB := TB_3 (i := 184) rfl rfl
theorem a3_185 : (Jvm.Cond.methodLink "TrialDeskLaw" (136 : Nat) ({ cls := "TrialDeskLaw", name := "stock", desc := "(LTrialDesk;II[J)I" } : Jvm.MethodName)) ∈ TB := TB_3 (i := 185) rfl rfl
theorem a3_186 : (Jvm.Cond.static ({ cls := "TrialDeskLaw", name := "stock", desc := "(LTrialDesk;II[J)I" } : Jvm.MethodName)) ∈ TB := TB_3 (i := 186) rfl rfl
theorem a3_187 : (Jvm.Cond.codeWith ({ cls := "TrialDeskLaw", name := "stock", desc := "(LTrialDesk;II[J)I" } : Jvm.MethodName) method_18_code (5 : Nat) (Option.some Jvm.ClassFile.FieldType.int) [((0 : Nat), (10 : Nat), (13 : Nat), (21 : Nat)), ((0 : Nat), (10 : Nat), (17 : Nat), (13 : Nat))]) ∈ TB := TB_3 (i := 187) rfl rfl
theorem a3_188 : (Jvm.Cond.methodLink "TrialDeskLaw" (65 : Nat) ({ cls := "TrialDesk", name := "stock", desc := "(II)I" } : Jvm.MethodName)) ∈ TB := TB_3 (i := 188) rfl rfl
theorem a3_189 : (Jvm.Cond.instanceMethod ({ cls := "TrialDesk", name := "stock", desc := "(II)I" } : Jvm.MethodName)) ∈ TB := TB_3 (i := 189) rfl rfl
theorem a3_190 : (Jvm.Cond.selects "TrialDesk" ({ cls := "TrialDesk", name := "stock", desc := "(II)I" } : Jvm.MethodName) ({ cls := "TrialDesk", name := "stock", desc := "(II)I" } : Jvm.MethodName)) ∈ TB := TB_3 (i := 190) rfl rfl
theorem a3_191 : (Jvm.Cond.code ({ cls := "TrialDesk", name := "stock", desc := "(II)I" } : Jvm.MethodName) prog_1_method_17_code (3 : Nat) (Option.some Jvm.ClassFile.FieldType.int)) ∈ TB := TB_3 (i := 191) rfl rfl
theorem a3_192 : (Jvm.Cond.methodLink "TrialDesk" (231 : Nat) ({ cls := "TrialDesk$Shelf", name := "tally", desc := "(II)I" } : Jvm.MethodName)) ∈ TB := TB_3 (i := 192) rfl rfl
theorem a3_193 : (Jvm.Cond.instanceMethod ({ cls := "TrialDesk$Shelf", name := "tally", desc := "(II)I" } : Jvm.MethodName)) ∈ TB := TB_3 (i := 193) rfl rfl
theorem a3_194 : (Jvm.Cond.selects "TrialDesk$Shelf" ({ cls := "TrialDesk$Shelf", name := "tally", desc := "(II)I" } : Jvm.MethodName) ({ cls := "TrialDesk$Shelf", name := "tally", desc := "(II)I" } : Jvm.MethodName)) ∈ TB := TB_3 (i := 194) rfl rfl
theorem a3_195 : (Jvm.Cond.code ({ cls := "TrialDesk$Shelf", name := "tally", desc := "(II)I" } : Jvm.MethodName) prog_5_method_4_code (5 : Nat) (Option.some Jvm.ClassFile.FieldType.int)) ∈ TB := TB_3 (i := 195) rfl rfl
theorem a3_196 : (Jvm.Cond.methodLink "TrialDeskLaw" (139 : Nat) ({ cls := "TrialDeskLaw", name := "used", desc := "(LTrialDesk;I[J)I" } : Jvm.MethodName)) ∈ TB := TB_3 (i := 196) rfl rfl
theorem a3_197 : (Jvm.Cond.static ({ cls := "TrialDeskLaw", name := "used", desc := "(LTrialDesk;I[J)I" } : Jvm.MethodName)) ∈ TB := TB_3 (i := 197) rfl rfl
theorem a3_198 : (Jvm.Cond.codeWith ({ cls := "TrialDeskLaw", name := "used", desc := "(LTrialDesk;I[J)I" } : Jvm.MethodName) method_19_code (4 : Nat) (Option.some Jvm.ClassFile.FieldType.int) [((0 : Nat), (9 : Nat), (12 : Nat), (21 : Nat))]) ∈ TB := TB_3 (i := 198) rfl rfl
theorem a3_199 : (Jvm.Cond.methodLink "TrialDeskLaw" (68 : Nat) ({ cls := "TrialDesk", name := "used", desc := "(I)I" } : Jvm.MethodName)) ∈ TB := TB_3 (i := 199) rfl rfl
theorem a3_200 : (Jvm.Cond.instanceMethod ({ cls := "TrialDesk", name := "used", desc := "(I)I" } : Jvm.MethodName)) ∈ TB := TB_3 (i := 200) rfl rfl
theorem a3_201 : (Jvm.Cond.selects "TrialDesk" ({ cls := "TrialDesk", name := "used", desc := "(I)I" } : Jvm.MethodName) ({ cls := "TrialDesk", name := "used", desc := "(I)I" } : Jvm.MethodName)) ∈ TB := TB_3 (i := 201) rfl rfl
theorem a3_202 : (Jvm.Cond.code ({ cls := "TrialDesk", name := "used", desc := "(I)I" } : Jvm.MethodName) prog_1_method_18_code (2 : Nat) (Option.some Jvm.ClassFile.FieldType.int)) ∈ TB := TB_3 (i := 202) rfl rfl
theorem a3_203 : (Jvm.Cond.methodLink "TrialDesk" (234 : Nat) ({ cls := "TrialDesk$Shelf", name := "userOf", desc := "(I)I" } : Jvm.MethodName)) ∈ TB := TB_3 (i := 203) rfl rfl
theorem a3_204 : (Jvm.Cond.instanceMethod ({ cls := "TrialDesk$Shelf", name := "userOf", desc := "(I)I" } : Jvm.MethodName)) ∈ TB := TB_3 (i := 204) rfl rfl
theorem a3_205 : (Jvm.Cond.selects "TrialDesk$Shelf" ({ cls := "TrialDesk$Shelf", name := "userOf", desc := "(I)I" } : Jvm.MethodName) ({ cls := "TrialDesk$Shelf", name := "userOf", desc := "(I)I" } : Jvm.MethodName)) ∈ TB := TB_3 (i := 205) rfl rfl
theorem a3_206 : (Jvm.Cond.code ({ cls := "TrialDesk$Shelf", name := "userOf", desc := "(I)I" } : Jvm.MethodName) prog_5_method_11_code (2 : Nat) (Option.some Jvm.ClassFile.FieldType.int)) ∈ TB := TB_3 (i := 206) rfl rfl
theorem a3_207 : (Jvm.Cond.methodLink "TrialDeskLaw" (146 : Nat) ({ cls := "TrialDeskLaw", name := "mount", desc := "(LTrialDesk;[J)I" } : Jvm.MethodName)) ∈ TB := TB_3 (i := 207) rfl rfl
theorem a3_208 : (Jvm.Cond.static ({ cls := "TrialDeskLaw", name := "mount", desc := "(LTrialDesk;[J)I" } : Jvm.MethodName)) ∈ TB := TB_3 (i := 208) rfl rfl
theorem a3_209 : (Jvm.Cond.codeWith ({ cls := "TrialDeskLaw", name := "mount", desc := "(LTrialDesk;[J)I" } : Jvm.MethodName) method_20_code (3 : Nat) (Option.some Jvm.ClassFile.FieldType.int) [((0 : Nat), (8 : Nat), (11 : Nat), (15 : Nat))]) ∈ TB := TB_3 (i := 209) rfl rfl
theorem a3_210 : (Jvm.Cond.methodLink "TrialDeskLaw" (71 : Nat) ({ cls := "TrialDesk", name := "mount", desc := "()I" } : Jvm.MethodName)) ∈ TB := TB_3 (i := 210) rfl rfl
theorem a3_211 : (Jvm.Cond.instanceMethod ({ cls := "TrialDesk", name := "mount", desc := "()I" } : Jvm.MethodName)) ∈ TB := TB_3 (i := 211) rfl rfl
theorem a3_212 : (Jvm.Cond.selects "TrialDesk" ({ cls := "TrialDesk", name := "mount", desc := "()I" } : Jvm.MethodName) ({ cls := "TrialDesk", name := "mount", desc := "()I" } : Jvm.MethodName)) ∈ TB := TB_3 (i := 212) rfl rfl
theorem a3_213 : (Jvm.Cond.code ({ cls := "TrialDesk", name := "mount", desc := "()I" } : Jvm.MethodName) prog_1_method_20_code (1 : Nat) (Option.some Jvm.ClassFile.FieldType.int)) ∈ TB := TB_3 (i := 213) rfl rfl
theorem a3_214 : (Jvm.Cond.classLink "TrialDeskLaw" (76 : Nat) "TrialDeskModel") ∈ TB := TB_3 (i := 214) rfl rfl
theorem a3_215 : (Jvm.Cond.instantiable "TrialDeskModel" (28 : Nat)) ∈ TB := TB_3 (i := 215) rfl rfl
theorem a3_216 : (Jvm.Cond.methodLink "TrialDeskLaw" (78 : Nat) ({ cls := "TrialDeskModel", name := "<init>", desc := "()V" } : Jvm.MethodName)) ∈ TB := TB_3 (i := 216) rfl rfl
theorem a3_217 : (Jvm.Cond.instanceMethod ({ cls := "TrialDeskModel", name := "<init>", desc := "()V" } : Jvm.MethodName)) ∈ TB := TB_3 (i := 217) rfl rfl
theorem a3_218 : (Jvm.Cond.code ({ cls := "TrialDeskModel", name := "<init>", desc := "()V" } : Jvm.MethodName) prog_9_method_1_code (2 : Nat) (Option.none : Option Jvm.ClassFile.FieldType)) ∈ TB := TB_3 (i := 218) rfl rfl
theorem a3_219 : (Jvm.Cond.methodLink "TrialDeskModel" (1 : Nat) ({ cls := "java/lang/Object", name := "<init>", desc := "()V" } : Jvm.MethodName)) ∈ TB := TB_3 (i := 219) rfl rfl
theorem a3_220 : (Jvm.Cond.constant "TrialDeskModel" (16 : Nat) (100800 : Int32)) ∈ TB := TB_3 (i := 220) rfl rfl
theorem a3_221 : (Jvm.Cond.fieldLink "TrialDeskModel" (70 : Nat) "TrialDeskModel" "thrown" "I") ∈ TB := TB_3 (i := 221) rfl rfl
theorem a3_222 : (Jvm.Cond.fieldLink "TrialDeskModel" (89 : Nat) "TrialDeskModel" "down" "Z") ∈ TB := TB_3 (i := 222) rfl rfl
theorem a3_223 : (Jvm.Cond.fieldLink "TrialDeskModel" (85 : Nat) "TrialDeskModel" "torn" "Z") ∈ TB := TB_3 (i := 223) rfl rfl
theorem a3_224 : (Jvm.Cond.fieldLink "TrialDeskModel" (92 : Nat) "TrialDeskModel" "records" "I") ∈ TB := TB_3 (i := 224) rfl rfl
theorem a3_225 : (Jvm.Cond.fieldLink "TrialDeskModel" (140 : Nat) "TrialDeskModel" "opened" "Z") ∈ TB := TB_3 (i := 225) rfl rfl
theorem a3_226 : (Jvm.Cond.fieldLink "TrialDeskModel" (82 : Nat) "TrialDeskModel" "arms" "I") ∈ TB := TB_3 (i := 226) rfl rfl
theorem a3_227 : (Jvm.Cond.fieldLink "TrialDeskModel" (106 : Nat) "TrialDeskModel" "size" "I") ∈ TB := TB_3 (i := 227) rfl rfl
theorem a3_228 : (Jvm.Cond.fieldLink "TrialDeskModel" (109 : Nat) "TrialDeskModel" "seed" "J") ∈ TB := TB_3 (i := 228) rfl rfl
theorem a3_229 : (Jvm.Cond.fieldLink "TrialDeskModel" (7 : Nat) "TrialDeskModel" "weights" "[I") ∈ TB := TB_3 (i := 229) rfl rfl
theorem a3_230 : (Jvm.Cond.fieldLink "TrialDeskModel" (95 : Nat) "TrialDeskModel" "taken" "I") ∈ TB := TB_3 (i := 230) rfl rfl
theorem a3_231 : (Jvm.Cond.fieldLink "TrialDeskModel" (13 : Nat) "TrialDeskModel" "blockOf" "[I") ∈ TB := TB_3 (i := 231) rfl rfl
theorem a3_232 : (Jvm.Cond.fieldLink "TrialDeskModel" (17 : Nat) "TrialDeskModel" "entries" "[B") ∈ TB := TB_3 (i := 232) rfl rfl
theorem a3_233 : (Jvm.Cond.fieldLink "TrialDeskModel" (21 : Nat) "TrialDeskModel" "many" "[I") ∈ TB := TB_3 (i := 233) rfl rfl
theorem a3_234 : (Jvm.Cond.fieldLink "TrialDeskModel" (24 : Nat) "TrialDeskModel" "words" "[J") ∈ TB := TB_3 (i := 234) rfl rfl
theorem a3_235 : (Jvm.Cond.fieldLink "TrialDeskModel" (28 : Nat) "TrialDeskModel" "openBlock" "[I") ∈ TB := TB_3 (i := 235) rfl rfl
theorem a3_236 : (Jvm.Cond.fieldLink "TrialDeskModel" (31 : Nat) "TrialDeskModel" "openNext" "[I") ∈ TB := TB_3 (i := 236) rfl rfl
theorem a3_237 : (Jvm.Cond.fieldLink "TrialDeskModel" (34 : Nat) "TrialDeskModel" "sites" "[I") ∈ TB := TB_3 (i := 237) rfl rfl
theorem a3_238 : (Jvm.Cond.fieldLink "TrialDeskModel" (37 : Nat) "TrialDeskModel" "kitSite" "[I") ∈ TB := TB_3 (i := 238) rfl rfl
theorem a3_239 : (Jvm.Cond.fieldLink "TrialDeskModel" (40 : Nat) "TrialDeskModel" "kitArm" "[I") ∈ TB := TB_3 (i := 239) rfl rfl
theorem a4_0 : (Jvm.Cond.fieldLink "TrialDeskModel" (43 : Nat) "TrialDeskModel" "kitIs" "[I") ∈ TB := TB_4 (i := 0) rfl rfl
theorem a4_1 : (Jvm.Cond.fieldLink "TrialDeskModel" (46 : Nat) "TrialDeskModel" "people" "[I") ∈ TB := TB_4 (i := 1) rfl rfl
theorem a4_2 : (Jvm.Cond.fieldLink "TrialDeskModel" (49 : Nat) "TrialDeskModel" "stratumOf" "[I") ∈ TB := TB_4 (i := 2) rfl rfl
theorem a4_3 : (Jvm.Cond.fieldLink "TrialDeskModel" (52 : Nat) "TrialDeskModel" "armOf" "[I") ∈ TB := TB_4 (i := 3) rfl rfl
theorem a4_4 : (Jvm.Cond.fieldLink "TrialDeskModel" (55 : Nat) "TrialDeskModel" "kitOf" "[I") ∈ TB := TB_4 (i := 4) rfl rfl
theorem a4_5 : (Jvm.Cond.fieldLink "TrialDeskModel" (58 : Nat) "TrialDeskModel" "keys" "[I") ∈ TB := TB_4 (i := 5) rfl rfl
theorem a4_6 : (Jvm.Cond.fieldLink "TrialDeskModel" (61 : Nat) "TrialDeskModel" "reserves" "[I") ∈ TB := TB_4 (i := 6) rfl rfl
theorem a4_7 : (Jvm.Cond.fieldLink "TrialDeskModel" (64 : Nat) "TrialDeskModel" "reserveNext" "[I") ∈ TB := TB_4 (i := 7) rfl rfl
theorem a4_8 : (Jvm.Cond.fieldLink "TrialDeskModel" (67 : Nat) "TrialDeskModel" "reserveKits" "[I") ∈ TB := TB_4 (i := 8) rfl rfl
theorem a4_9 : (Jvm.Cond.lays "TrialDeskModel" "TrialDeskModel" "thrown" "I") ∈ TB := TB_4 (i := 9) rfl rfl
theorem a4_11 : (Jvm.Cond.lays "TrialDeskModel" "TrialDeskModel" "down" "Z") ∈ TB := TB_4 (i := 11) rfl rfl
theorem a4_13 : (Jvm.Cond.lays "TrialDeskModel" "TrialDeskModel" "torn" "Z") ∈ TB := TB_4 (i := 13) rfl rfl
theorem a4_15 : (Jvm.Cond.lays "TrialDeskModel" "TrialDeskModel" "records" "I") ∈ TB := TB_4 (i := 15) rfl rfl
theorem a4_17 : (Jvm.Cond.lays "TrialDeskModel" "TrialDeskModel" "opened" "Z") ∈ TB := TB_4 (i := 17) rfl rfl
theorem a4_19 : (Jvm.Cond.lays "TrialDeskModel" "TrialDeskModel" "arms" "I") ∈ TB := TB_4 (i := 19) rfl rfl
theorem a4_21 : (Jvm.Cond.lays "TrialDeskModel" "TrialDeskModel" "size" "I") ∈ TB := TB_4 (i := 21) rfl rfl
theorem a4_23 : (Jvm.Cond.lays "TrialDeskModel" "TrialDeskModel" "seed" "J") ∈ TB := TB_4 (i := 23) rfl rfl
theorem a4_25 : (Jvm.Cond.laysFinal "TrialDeskModel" "TrialDeskModel" "weights" "[I") ∈ TB := TB_4 (i := 25) rfl rfl
theorem a4_27 : (Jvm.Cond.lays "TrialDeskModel" "TrialDeskModel" "taken" "I") ∈ TB := TB_4 (i := 27) rfl rfl
theorem a4_29 : (Jvm.Cond.laysFinal "TrialDeskModel" "TrialDeskModel" "blockOf" "[I") ∈ TB := TB_4 (i := 29) rfl rfl
theorem a4_31 : (Jvm.Cond.laysFinal "TrialDeskModel" "TrialDeskModel" "entries" "[B") ∈ TB := TB_4 (i := 31) rfl rfl
theorem a4_33 : (Jvm.Cond.laysFinal "TrialDeskModel" "TrialDeskModel" "many" "[I") ∈ TB := TB_4 (i := 33) rfl rfl
theorem a4_35 : (Jvm.Cond.laysFinal "TrialDeskModel" "TrialDeskModel" "words" "[J") ∈ TB := TB_4 (i := 35) rfl rfl
theorem a4_37 : (Jvm.Cond.laysFinal "TrialDeskModel" "TrialDeskModel" "openBlock" "[I") ∈ TB := TB_4 (i := 37) rfl rfl
theorem a4_39 : (Jvm.Cond.laysFinal "TrialDeskModel" "TrialDeskModel" "openNext" "[I") ∈ TB := TB_4 (i := 39) rfl rfl
theorem a4_41 : (Jvm.Cond.laysFinal "TrialDeskModel" "TrialDeskModel" "sites" "[I") ∈ TB := TB_4 (i := 41) rfl rfl
theorem a4_43 : (Jvm.Cond.laysFinal "TrialDeskModel" "TrialDeskModel" "kitSite" "[I") ∈ TB := TB_4 (i := 43) rfl rfl
theorem a4_45 : (Jvm.Cond.laysFinal "TrialDeskModel" "TrialDeskModel" "kitArm" "[I") ∈ TB := TB_4 (i := 45) rfl rfl
theorem a4_47 : (Jvm.Cond.laysFinal "TrialDeskModel" "TrialDeskModel" "kitIs" "[I") ∈ TB := TB_4 (i := 47) rfl rfl
theorem a4_49 : (Jvm.Cond.laysFinal "TrialDeskModel" "TrialDeskModel" "people" "[I") ∈ TB := TB_4 (i := 49) rfl rfl
theorem a4_51 : (Jvm.Cond.laysFinal "TrialDeskModel" "TrialDeskModel" "stratumOf" "[I") ∈ TB := TB_4 (i := 51) rfl rfl
theorem a4_53 : (Jvm.Cond.laysFinal "TrialDeskModel" "TrialDeskModel" "armOf" "[I") ∈ TB := TB_4 (i := 53) rfl rfl
theorem a4_55 : (Jvm.Cond.laysFinal "TrialDeskModel" "TrialDeskModel" "kitOf" "[I") ∈ TB := TB_4 (i := 55) rfl rfl
theorem a4_57 : (Jvm.Cond.laysFinal "TrialDeskModel" "TrialDeskModel" "keys" "[I") ∈ TB := TB_4 (i := 57) rfl rfl
theorem a4_59 : (Jvm.Cond.laysFinal "TrialDeskModel" "TrialDeskModel" "reserves" "[I") ∈ TB := TB_4 (i := 59) rfl rfl
theorem a4_61 : (Jvm.Cond.laysFinal "TrialDeskModel" "TrialDeskModel" "reserveNext" "[I") ∈ TB := TB_4 (i := 61) rfl rfl
theorem a4_63 : (Jvm.Cond.laysFinal "TrialDeskModel" "TrialDeskModel" "reserveKits" "[I") ∈ TB := TB_4 (i := 63) rfl rfl
theorem a4_65 : (Jvm.Cond.superclass "TrialDeskModel" "java/lang/Object") ∈ TB := TB_4 (i := 65) rfl rfl
theorem a4_66 : (Jvm.Cond.arrayClass Jvm.ClassFile.FieldType.byte) ∈ TB := TB_4 (i := 66) rfl rfl
theorem a4_67 : (Jvm.Cond.arrayClass Jvm.ClassFile.FieldType.long) ∈ TB := TB_4 (i := 67) rfl rfl
theorem a4_68 : (Jvm.Cond.methodLink "TrialDeskLaw" (87 : Nat) ({ cls := "TrialDeskModel", name := "thrown", desc := "()I" } : Jvm.MethodName)) ∈ TB := TB_4 (i := 68) rfl rfl
theorem a4_69 : (Jvm.Cond.instanceMethod ({ cls := "TrialDeskModel", name := "thrown", desc := "()I" } : Jvm.MethodName)) ∈ TB := TB_4 (i := 69) rfl rfl
theorem a4_70 : (Jvm.Cond.selects "TrialDeskModel" ({ cls := "TrialDeskModel", name := "thrown", desc := "()I" } : Jvm.MethodName) ({ cls := "TrialDeskModel", name := "thrown", desc := "()I" } : Jvm.MethodName)) ∈ TB := TB_4 (i := 70) rfl rfl
theorem a4_71 : (Jvm.Cond.code ({ cls := "TrialDeskModel", name := "thrown", desc := "()I" } : Jvm.MethodName) prog_9_method_2_code (1 : Nat) (Option.some Jvm.ClassFile.FieldType.int)) ∈ TB := TB_4 (i := 71) rfl rfl
theorem a4_72 : (Jvm.Cond.methodLink "TrialDeskLaw" (86 : Nat) ({ cls := "TrialDeskModel", name := "arms", desc := "(IIIIIJ)V" } : Jvm.MethodName)) ∈ TB := TB_4 (i := 72) rfl rfl
theorem a4_73 : (Jvm.Cond.instanceMethod ({ cls := "TrialDeskModel", name := "arms", desc := "(IIIIIJ)V" } : Jvm.MethodName)) ∈ TB := TB_4 (i := 73) rfl rfl
theorem a4_74 : (Jvm.Cond.selects "TrialDeskModel" ({ cls := "TrialDeskModel", name := "arms", desc := "(IIIIIJ)V" } : Jvm.MethodName) ({ cls := "TrialDeskModel", name := "arms", desc := "(IIIIIJ)V" } : Jvm.MethodName)) ∈ TB := TB_4 (i := 74) rfl rfl
theorem a4_75 : (Jvm.Cond.code ({ cls := "TrialDeskModel", name := "arms", desc := "(IIIIIJ)V" } : Jvm.MethodName) prog_9_method_10_code (12 : Nat) (Option.none : Option Jvm.ClassFile.FieldType)) ∈ TB := TB_4 (i := 75) rfl rfl
theorem a4_76 : (Jvm.Cond.methodLink "TrialDeskModel" (74 : Nat) ({ cls := "TrialDeskModel", name := "within", desc := "(III)Z" } : Jvm.MethodName)) ∈ TB := TB_4 (i := 76) rfl rfl
theorem a4_77 : (Jvm.Cond.static ({ cls := "TrialDeskModel", name := "within", desc := "(III)Z" } : Jvm.MethodName)) ∈ TB := TB_4 (i := 77) rfl rfl
theorem a4_78 : (Jvm.Cond.code ({ cls := "TrialDeskModel", name := "within", desc := "(III)Z" } : Jvm.MethodName) prog_9_method_4_code (3 : Nat) (Option.some Jvm.ClassFile.FieldType.boolean)) ∈ TB := TB_4 (i := 78) rfl rfl
theorem a4_79 : (Jvm.Cond.methodLink "TrialDeskModel" (98 : Nat) ({ cls := "TrialDeskModel", name := "refused", desc := "(ZZZ)Z" } : Jvm.MethodName)) ∈ TB := TB_4 (i := 79) rfl rfl
theorem a4_81 : (Jvm.Cond.instanceMethod ({ cls := "TrialDeskModel", name := "refused", desc := "(ZZZ)Z" } : Jvm.MethodName)) ∈ TB := TB_4 (i := 81) rfl rfl
theorem a4_82 : (Jvm.Cond.code ({ cls := "TrialDeskModel", name := "refused", desc := "(ZZZ)Z" } : Jvm.MethodName) prog_9_method_3_code (4 : Nat) (Option.some Jvm.ClassFile.FieldType.boolean)) ∈ TB := TB_4 (i := 82) rfl rfl
theorem a4_83 : (Jvm.Cond.methodLink "TrialDeskModel" (102 : Nat) ({ cls := "TrialDeskModel", name := "writes", desc := "()Z" } : Jvm.MethodName)) ∈ TB := TB_4 (i := 83) rfl rfl
theorem a4_85 : (Jvm.Cond.instanceMethod ({ cls := "TrialDeskModel", name := "writes", desc := "()Z" } : Jvm.MethodName)) ∈ TB := TB_4 (i := 85) rfl rfl
theorem a4_86 : (Jvm.Cond.code ({ cls := "TrialDeskModel", name := "writes", desc := "()Z" } : Jvm.MethodName) prog_9_method_9_code (1 : Nat) (Option.some Jvm.ClassFile.FieldType.boolean)) ∈ TB := TB_4 (i := 86) rfl rfl
theorem a4_87 : (Jvm.Cond.constantLong "TrialDeskModel" (113 : Nat) (-7046029254386353131 : Int64)) ∈ TB := TB_4 (i := 87) rfl rfl
theorem a4_88 : (Jvm.Cond.methodLink "TrialDeskLaw" (93 : Nat) ({ cls := "TrialDeskModel", name := "site", desc := "(I)I" } : Jvm.MethodName)) ∈ TB := TB_4 (i := 88) rfl rfl
theorem a4_89 : (Jvm.Cond.instanceMethod ({ cls := "TrialDeskModel", name := "site", desc := "(I)I" } : Jvm.MethodName)) ∈ TB := TB_4 (i := 89) rfl rfl
theorem a4_90 : (Jvm.Cond.selects "TrialDeskModel" ({ cls := "TrialDeskModel", name := "site", desc := "(I)I" } : Jvm.MethodName) ({ cls := "TrialDeskModel", name := "site", desc := "(I)I" } : Jvm.MethodName)) ∈ TB := TB_4 (i := 90) rfl rfl
theorem a4_91 : (Jvm.Cond.code ({ cls := "TrialDeskModel", name := "site", desc := "(I)I" } : Jvm.MethodName) prog_9_method_14_code (5 : Nat) (Option.some Jvm.ClassFile.FieldType.int)) ∈ TB := TB_4 (i := 91) rfl rfl
theorem a4_92 : (Jvm.Cond.methodLink "TrialDeskLaw" (97 : Nat) ({ cls := "TrialDeskModel", name := "kits", desc := "(IIII)I" } : Jvm.MethodName)) ∈ TB := TB_4 (i := 92) rfl rfl
theorem a4_93 : (Jvm.Cond.instanceMethod ({ cls := "TrialDeskModel", name := "kits", desc := "(IIII)I" } : Jvm.MethodName)) ∈ TB := TB_4 (i := 93) rfl rfl
theorem a4_94 : (Jvm.Cond.selects "TrialDeskModel" ({ cls := "TrialDeskModel", name := "kits", desc := "(IIII)I" } : Jvm.MethodName) ({ cls := "TrialDeskModel", name := "kits", desc := "(IIII)I" } : Jvm.MethodName)) ∈ TB := TB_4 (i := 94) rfl rfl
theorem a4_95 : (Jvm.Cond.code ({ cls := "TrialDeskModel", name := "kits", desc := "(IIII)I" } : Jvm.MethodName) prog_9_method_17_code (7 : Nat) (Option.some Jvm.ClassFile.FieldType.int)) ∈ TB := TB_4 (i := 95) rfl rfl
theorem a4_96 : (Jvm.Cond.methodLink "TrialDeskModel" (78 : Nat) ({ cls := "TrialDeskModel", name := "isSite", desc := "(I)Z" } : Jvm.MethodName)) ∈ TB := TB_4 (i := 96) rfl rfl
theorem a4_98 : (Jvm.Cond.instanceMethod ({ cls := "TrialDeskModel", name := "isSite", desc := "(I)Z" } : Jvm.MethodName)) ∈ TB := TB_4 (i := 98) rfl rfl
theorem a4_99 : (Jvm.Cond.code ({ cls := "TrialDeskModel", name := "isSite", desc := "(I)Z" } : Jvm.MethodName) prog_9_method_5_code (2 : Nat) (Option.some Jvm.ClassFile.FieldType.boolean)) ∈ TB := TB_4 (i := 99) rfl rfl
theorem a4_100 : (Jvm.Cond.methodLink "TrialDeskModel" (125 : Nat) ({ cls := "TrialDeskModel", name := "isArm", desc := "(I)Z" } : Jvm.MethodName)) ∈ TB := TB_4 (i := 100) rfl rfl
theorem a4_102 : (Jvm.Cond.instanceMethod ({ cls := "TrialDeskModel", name := "isArm", desc := "(I)Z" } : Jvm.MethodName)) ∈ TB := TB_4 (i := 102) rfl rfl
theorem a4_103 : (Jvm.Cond.code ({ cls := "TrialDeskModel", name := "isArm", desc := "(I)Z" } : Jvm.MethodName) prog_9_method_8_code (2 : Nat) (Option.some Jvm.ClassFile.FieldType.boolean)) ∈ TB := TB_4 (i := 103) rfl rfl
theorem a4_104 : (Jvm.Cond.constantLong "TrialDeskModel" (128 : Nat) (999 : Int64)) ∈ TB := TB_4 (i := 104) rfl rfl
theorem a4_105 : (Jvm.Cond.methodLink "TrialDeskModel" (130 : Nat) ({ cls := "TrialDeskModel", name := "free", desc := "(II)I" } : Jvm.MethodName)) ∈ TB := TB_4 (i := 105) rfl rfl
theorem a4_107 : (Jvm.Cond.instanceMethod ({ cls := "TrialDeskModel", name := "free", desc := "(II)I" } : Jvm.MethodName)) ∈ TB := TB_4 (i := 107) rfl rfl
theorem a4_108 : (Jvm.Cond.code ({ cls := "TrialDeskModel", name := "free", desc := "(II)I" } : Jvm.MethodName) prog_9_method_15_code (5 : Nat) (Option.some Jvm.ClassFile.FieldType.int)) ∈ TB := TB_4 (i := 108) rfl rfl
theorem a4_109 : (Jvm.Cond.methodLink "TrialDeskLaw" (101 : Nat) ({ cls := "TrialDeskModel", name := "allot", desc := "(III)I" } : Jvm.MethodName)) ∈ TB := TB_4 (i := 109) rfl rfl
theorem a4_110 : (Jvm.Cond.instanceMethod ({ cls := "TrialDeskModel", name := "allot", desc := "(III)I" } : Jvm.MethodName)) ∈ TB := TB_4 (i := 110) rfl rfl
theorem a4_111 : (Jvm.Cond.selects "TrialDeskModel" ({ cls := "TrialDeskModel", name := "allot", desc := "(III)I" } : Jvm.MethodName) ({ cls := "TrialDeskModel", name := "allot", desc := "(III)I" } : Jvm.MethodName)) ∈ TB := TB_4 (i := 111) rfl rfl
theorem a4_112 : (Jvm.Cond.code ({ cls := "TrialDeskModel", name := "allot", desc := "(III)I" } : Jvm.MethodName) prog_9_method_19_code (6 : Nat) (Option.some Jvm.ClassFile.FieldType.int)) ∈ TB := TB_4 (i := 112) rfl rfl
theorem a4_113 : (Jvm.Cond.methodLink "TrialDeskModel" (133 : Nat) ({ cls := "TrialDeskModel", name := "isPerson", desc := "(II)Z" } : Jvm.MethodName)) ∈ TB := TB_4 (i := 113) rfl rfl
theorem a4_115 : (Jvm.Cond.instanceMethod ({ cls := "TrialDeskModel", name := "isPerson", desc := "(II)Z" } : Jvm.MethodName)) ∈ TB := TB_4 (i := 115) rfl rfl
theorem a4_116 : (Jvm.Cond.code ({ cls := "TrialDeskModel", name := "isPerson", desc := "(II)Z" } : Jvm.MethodName) prog_9_method_7_code (3 : Nat) (Option.some Jvm.ClassFile.FieldType.boolean)) ∈ TB := TB_4 (i := 116) rfl rfl
theorem a4_117 : (Jvm.Cond.methodLink "TrialDeskModel" (137 : Nat) ({ cls := "TrialDeskModel", name := "isStratum", desc := "(I)Z" } : Jvm.MethodName)) ∈ TB := TB_4 (i := 117) rfl rfl
theorem a4_118 : (Jvm.Cond.static ({ cls := "TrialDeskModel", name := "isStratum", desc := "(I)Z" } : Jvm.MethodName)) ∈ TB := TB_4 (i := 118) rfl rfl
theorem a4_119 : (Jvm.Cond.code ({ cls := "TrialDeskModel", name := "isStratum", desc := "(I)Z" } : Jvm.MethodName) prog_9_method_6_code (1 : Nat) (Option.some Jvm.ClassFile.FieldType.boolean)) ∈ TB := TB_4 (i := 119) rfl rfl
theorem a4_120 : (Jvm.Cond.methodLink "TrialDeskModel" (143 : Nat) ({ cls := "TrialDeskModel", name := "nextArm", desc := "(I)I" } : Jvm.MethodName)) ∈ TB := TB_4 (i := 120) rfl rfl
theorem a4_122 : (Jvm.Cond.instanceMethod ({ cls := "TrialDeskModel", name := "nextArm", desc := "(I)I" } : Jvm.MethodName)) ∈ TB := TB_4 (i := 122) rfl rfl
theorem a4_123 : (Jvm.Cond.code ({ cls := "TrialDeskModel", name := "nextArm", desc := "(I)I" } : Jvm.MethodName) prog_9_method_13_code (6 : Nat) (Option.some Jvm.ClassFile.FieldType.int)) ∈ TB := TB_4 (i := 123) rfl rfl
theorem a4_124 : (Jvm.Cond.methodLink "TrialDeskModel" (121 : Nat) ({ cls := "TrialDeskModel", name := "takeBlock", desc := "(I)I" } : Jvm.MethodName)) ∈ TB := TB_4 (i := 124) rfl rfl
theorem a4_126 : (Jvm.Cond.instanceMethod ({ cls := "TrialDeskModel", name := "takeBlock", desc := "(I)I" } : Jvm.MethodName)) ∈ TB := TB_4 (i := 126) rfl rfl
theorem a4_127 : (Jvm.Cond.code ({ cls := "TrialDeskModel", name := "takeBlock", desc := "(I)I" } : Jvm.MethodName) prog_9_method_12_code (8 : Nat) (Option.some Jvm.ClassFile.FieldType.int)) ∈ TB := TB_4 (i := 127) rfl rfl
theorem a4_128 : (Jvm.Cond.methodLink "TrialDeskModel" (117 : Nat) ({ cls := "TrialDeskModel", name := "draw", desc := "(II)I" } : Jvm.MethodName)) ∈ TB := TB_4 (i := 128) rfl rfl
theorem a4_130 : (Jvm.Cond.instanceMethod ({ cls := "TrialDeskModel", name := "draw", desc := "(II)I" } : Jvm.MethodName)) ∈ TB := TB_4 (i := 130) rfl rfl
theorem a4_131 : (Jvm.Cond.code ({ cls := "TrialDeskModel", name := "draw", desc := "(II)I" } : Jvm.MethodName) prog_9_method_11_code (9 : Nat) (Option.some Jvm.ClassFile.FieldType.int)) ∈ TB := TB_4 (i := 131) rfl rfl
theorem a4_132 : (Jvm.Cond.constantLong "TrialDeskModel" (115 : Nat) (2147483648 : Int64)) ∈ TB := TB_4 (i := 132) rfl rfl
theorem a4_133 : (Jvm.Cond.methodLink "TrialDeskModel" (146 : Nat) ({ cls := "TrialDeskModel", name := "leastFree", desc := "(II)I" } : Jvm.MethodName)) ∈ TB := TB_4 (i := 133) rfl rfl
theorem a4_135 : (Jvm.Cond.instanceMethod ({ cls := "TrialDeskModel", name := "leastFree", desc := "(II)I" } : Jvm.MethodName)) ∈ TB := TB_4 (i := 135) rfl rfl
theorem a4_136 : (Jvm.Cond.code ({ cls := "TrialDeskModel", name := "leastFree", desc := "(II)I" } : Jvm.MethodName) prog_9_method_16_code (4 : Nat) (Option.some Jvm.ClassFile.FieldType.int)) ∈ TB := TB_4 (i := 136) rfl rfl
theorem a4_137 : (Jvm.Cond.methodLink "TrialDeskModel" (149 : Nat) ({ cls := "TrialDeskModel", name := "give", desc := "(IIIIIZ)V" } : Jvm.MethodName)) ∈ TB := TB_4 (i := 137) rfl rfl
theorem a4_139 : (Jvm.Cond.instanceMethod ({ cls := "TrialDeskModel", name := "give", desc := "(IIIIIZ)V" } : Jvm.MethodName)) ∈ TB := TB_4 (i := 139) rfl rfl
theorem a4_140 : (Jvm.Cond.code ({ cls := "TrialDeskModel", name := "give", desc := "(IIIIIZ)V" } : Jvm.MethodName) prog_9_method_18_code (8 : Nat) (Option.none : Option Jvm.ClassFile.FieldType)) ∈ TB := TB_4 (i := 140) rfl rfl
theorem a4_141 : (Jvm.Cond.methodLink "TrialDeskLaw" (105 : Nat) ({ cls := "TrialDeskModel", name := "reserve", desc := "(II)I" } : Jvm.MethodName)) ∈ TB := TB_4 (i := 141) rfl rfl
theorem a4_142 : (Jvm.Cond.instanceMethod ({ cls := "TrialDeskModel", name := "reserve", desc := "(II)I" } : Jvm.MethodName)) ∈ TB := TB_4 (i := 142) rfl rfl
theorem a4_143 : (Jvm.Cond.selects "TrialDeskModel" ({ cls := "TrialDeskModel", name := "reserve", desc := "(II)I" } : Jvm.MethodName) ({ cls := "TrialDeskModel", name := "reserve", desc := "(II)I" } : Jvm.MethodName)) ∈ TB := TB_4 (i := 143) rfl rfl
theorem a4_144 : (Jvm.Cond.code ({ cls := "TrialDeskModel", name := "reserve", desc := "(II)I" } : Jvm.MethodName) prog_9_method_20_code (7 : Nat) (Option.some Jvm.ClassFile.FieldType.int)) ∈ TB := TB_4 (i := 144) rfl rfl
theorem a4_145 : (Jvm.Cond.methodLink "TrialDeskLaw" (108 : Nat) ({ cls := "TrialDeskModel", name := "offline", desc := "(III)I" } : Jvm.MethodName)) ∈ TB := TB_4 (i := 145) rfl rfl
theorem a4_146 : (Jvm.Cond.instanceMethod ({ cls := "TrialDeskModel", name := "offline", desc := "(III)I" } : Jvm.MethodName)) ∈ TB := TB_4 (i := 146) rfl rfl
theorem a4_147 : (Jvm.Cond.selects "TrialDeskModel" ({ cls := "TrialDeskModel", name := "offline", desc := "(III)I" } : Jvm.MethodName) ({ cls := "TrialDeskModel", name := "offline", desc := "(III)I" } : Jvm.MethodName)) ∈ TB := TB_4 (i := 147) rfl rfl
theorem a4_148 : (Jvm.Cond.code ({ cls := "TrialDeskModel", name := "offline", desc := "(III)I" } : Jvm.MethodName) prog_9_method_21_code (6 : Nat) (Option.some Jvm.ClassFile.FieldType.int)) ∈ TB := TB_4 (i := 148) rfl rfl
theorem a4_149 : (Jvm.Cond.methodLink "TrialDeskLaw" (111 : Nat) ({ cls := "TrialDeskModel", name := "report", desc := "(I)I" } : Jvm.MethodName)) ∈ TB := TB_4 (i := 149) rfl rfl
theorem a4_150 : (Jvm.Cond.instanceMethod ({ cls := "TrialDeskModel", name := "report", desc := "(I)I" } : Jvm.MethodName)) ∈ TB := TB_4 (i := 150) rfl rfl
theorem a4_151 : (Jvm.Cond.selects "TrialDeskModel" ({ cls := "TrialDeskModel", name := "report", desc := "(I)I" } : Jvm.MethodName) ({ cls := "TrialDeskModel", name := "report", desc := "(I)I" } : Jvm.MethodName)) ∈ TB := TB_4 (i := 151) rfl rfl
theorem a4_152 : (Jvm.Cond.code ({ cls := "TrialDeskModel", name := "report", desc := "(I)I" } : Jvm.MethodName) prog_9_method_23_code (5 : Nat) (Option.some Jvm.ClassFile.FieldType.int)) ∈ TB := TB_4 (i := 152) rfl rfl
theorem a4_153 : (Jvm.Cond.methodLink "TrialDeskLaw" (114 : Nat) ({ cls := "TrialDeskModel", name := "close", desc := "(I)I" } : Jvm.MethodName)) ∈ TB := TB_4 (i := 153) rfl rfl
theorem a4_154 : (Jvm.Cond.instanceMethod ({ cls := "TrialDeskModel", name := "close", desc := "(I)I" } : Jvm.MethodName)) ∈ TB := TB_4 (i := 154) rfl rfl
theorem a4_155 : (Jvm.Cond.selects "TrialDeskModel" ({ cls := "TrialDeskModel", name := "close", desc := "(I)I" } : Jvm.MethodName) ({ cls := "TrialDeskModel", name := "close", desc := "(I)I" } : Jvm.MethodName)) ∈ TB := TB_4 (i := 155) rfl rfl
theorem a4_156 : (Jvm.Cond.code ({ cls := "TrialDeskModel", name := "close", desc := "(I)I" } : Jvm.MethodName) prog_9_method_24_code (4 : Nat) (Option.some Jvm.ClassFile.FieldType.int)) ∈ TB := TB_4 (i := 156) rfl rfl
theorem a4_157 : (Jvm.Cond.methodLink "TrialDeskLaw" (117 : Nat) ({ cls := "TrialDeskModel", name := "key", desc := "(III)I" } : Jvm.MethodName)) ∈ TB := TB_4 (i := 157) rfl rfl
theorem a4_158 : (Jvm.Cond.instanceMethod ({ cls := "TrialDeskModel", name := "key", desc := "(III)I" } : Jvm.MethodName)) ∈ TB := TB_4 (i := 158) rfl rfl
theorem a4_159 : (Jvm.Cond.selects "TrialDeskModel" ({ cls := "TrialDeskModel", name := "key", desc := "(III)I" } : Jvm.MethodName) ({ cls := "TrialDeskModel", name := "key", desc := "(III)I" } : Jvm.MethodName)) ∈ TB := TB_4 (i := 159) rfl rfl
theorem a4_160 : (Jvm.Cond.code ({ cls := "TrialDeskModel", name := "key", desc := "(III)I" } : Jvm.MethodName) prog_9_method_27_code (5 : Nat) (Option.some Jvm.ClassFile.FieldType.int)) ∈ TB := TB_4 (i := 160) rfl rfl
theorem a4_161 : (Jvm.Cond.methodLink "TrialDeskModel" (153 : Nat) ({ cls := "TrialDeskModel", name := "isHolder", desc := "(I)Z" } : Jvm.MethodName)) ∈ TB := TB_4 (i := 161) rfl rfl
theorem a4_162 : (Jvm.Cond.static ({ cls := "TrialDeskModel", name := "isHolder", desc := "(I)Z" } : Jvm.MethodName)) ∈ TB := TB_4 (i := 162) rfl rfl
theorem a4_163 : (Jvm.Cond.code ({ cls := "TrialDeskModel", name := "isHolder", desc := "(I)Z" } : Jvm.MethodName) prog_9_method_25_code (1 : Nat) (Option.some Jvm.ClassFile.FieldType.boolean)) ∈ TB := TB_4 (i := 163) rfl rfl
theorem a4_164 : (Jvm.Cond.methodLink "TrialDeskModel" (156 : Nat) ({ cls := "TrialDeskModel", name := "keysOf", desc := "(I)I" } : Jvm.MethodName)) ∈ TB := TB_4 (i := 164) rfl rfl
theorem a4_166 : (Jvm.Cond.instanceMethod ({ cls := "TrialDeskModel", name := "keysOf", desc := "(I)I" } : Jvm.MethodName)) ∈ TB := TB_4 (i := 166) rfl rfl
theorem a4_167 : (Jvm.Cond.code ({ cls := "TrialDeskModel", name := "keysOf", desc := "(I)I" } : Jvm.MethodName) prog_9_method_26_code (4 : Nat) (Option.some Jvm.ClassFile.FieldType.int)) ∈ TB := TB_4 (i := 167) rfl rfl
theorem a4_168 : (Jvm.Cond.methodLink "TrialDeskLaw" (120 : Nat) ({ cls := "TrialDeskModel", name := "arm", desc := "(II)I" } : Jvm.MethodName)) ∈ TB := TB_4 (i := 168) rfl rfl
theorem a4_169 : (Jvm.Cond.instanceMethod ({ cls := "TrialDeskModel", name := "arm", desc := "(II)I" } : Jvm.MethodName)) ∈ TB := TB_4 (i := 169) rfl rfl
theorem a4_170 : (Jvm.Cond.selects "TrialDeskModel" ({ cls := "TrialDeskModel", name := "arm", desc := "(II)I" } : Jvm.MethodName) ({ cls := "TrialDeskModel", name := "arm", desc := "(II)I" } : Jvm.MethodName)) ∈ TB := TB_4 (i := 170) rfl rfl
theorem a4_171 : (Jvm.Cond.code ({ cls := "TrialDeskModel", name := "arm", desc := "(II)I" } : Jvm.MethodName) prog_9_method_28_code (4 : Nat) (Option.some Jvm.ClassFile.FieldType.int)) ∈ TB := TB_4 (i := 171) rfl rfl
theorem a4_172 : (Jvm.Cond.methodLink "TrialDeskLaw" (123 : Nat) ({ cls := "TrialDeskModel", name := "open", desc := "(II)I" } : Jvm.MethodName)) ∈ TB := TB_4 (i := 172) rfl rfl
theorem a4_173 : (Jvm.Cond.instanceMethod ({ cls := "TrialDeskModel", name := "open", desc := "(II)I" } : Jvm.MethodName)) ∈ TB := TB_4 (i := 173) rfl rfl
theorem a4_174 : (Jvm.Cond.selects "TrialDeskModel" ({ cls := "TrialDeskModel", name := "open", desc := "(II)I" } : Jvm.MethodName) ({ cls := "TrialDeskModel", name := "open", desc := "(II)I" } : Jvm.MethodName)) ∈ TB := TB_4 (i := 174) rfl rfl
theorem a4_175 : (Jvm.Cond.code ({ cls := "TrialDeskModel", name := "open", desc := "(II)I" } : Jvm.MethodName) prog_9_method_29_code (3 : Nat) (Option.some Jvm.ClassFile.FieldType.int)) ∈ TB := TB_4 (i := 175) rfl rfl
theorem a4_176 : (Jvm.Cond.methodLink "TrialDeskLaw" (126 : Nat) ({ cls := "TrialDeskModel", name := "count", desc := "(II)I" } : Jvm.MethodName)) ∈ TB := TB_4 (i := 176) rfl rfl
theorem a4_177 : (Jvm.Cond.instanceMethod ({ cls := "TrialDeskModel", name := "count", desc := "(II)I" } : Jvm.MethodName)) ∈ TB := TB_4 (i := 177) rfl rfl
theorem a4_178 : (Jvm.Cond.selects "TrialDeskModel" ({ cls := "TrialDeskModel", name := "count", desc := "(II)I" } : Jvm.MethodName) ({ cls := "TrialDeskModel", name := "count", desc := "(II)I" } : Jvm.MethodName)) ∈ TB := TB_4 (i := 178) rfl rfl
theorem a4_179 : (Jvm.Cond.code ({ cls := "TrialDeskModel", name := "count", desc := "(II)I" } : Jvm.MethodName) prog_9_method_31_code (3 : Nat) (Option.some Jvm.ClassFile.FieldType.int)) ∈ TB := TB_4 (i := 179) rfl rfl
theorem a4_180 : (Jvm.Cond.methodLink "TrialDeskModel" (159 : Nat) ({ cls := "TrialDeskModel", name := "known", desc := "(II)I" } : Jvm.MethodName)) ∈ TB := TB_4 (i := 180) rfl rfl
theorem a4_182 : (Jvm.Cond.instanceMethod ({ cls := "TrialDeskModel", name := "known", desc := "(II)I" } : Jvm.MethodName)) ∈ TB := TB_4 (i := 182) rfl rfl
theorem a4_183 : (Jvm.Cond.code ({ cls := "TrialDeskModel", name := "known", desc := "(II)I" } : Jvm.MethodName) prog_9_method_30_code (5 : Nat) (Option.some Jvm.ClassFile.FieldType.int)) ∈ TB := TB_4 (i := 183) rfl rfl
theorem a4_184 : (Jvm.Cond.methodLink "TrialDeskLaw" (129 : Nat) ({ cls := "TrialDeskModel", name := "spread", desc := "(I)I" } : Jvm.MethodName)) ∈ TB := TB_4 (i := 184) rfl rfl
theorem a4_185 : (Jvm.Cond.instanceMethod ({ cls := "TrialDeskModel", name := "spread", desc := "(I)I" } : Jvm.MethodName)) ∈ TB := TB_4 (i := 185) rfl rfl
theorem a4_186 : (Jvm.Cond.selects "TrialDeskModel" ({ cls := "TrialDeskModel", name := "spread", desc := "(I)I" } : Jvm.MethodName) ({ cls := "TrialDeskModel", name := "spread", desc := "(I)I" } : Jvm.MethodName)) ∈ TB := TB_4 (i := 186) rfl rfl
theorem a4_187 : (Jvm.Cond.code ({ cls := "TrialDeskModel", name := "spread", desc := "(I)I" } : Jvm.MethodName) prog_9_method_32_code (6 : Nat) (Option.some Jvm.ClassFile.FieldType.int)) ∈ TB := TB_4 (i := 187) rfl rfl
theorem a4_188 : (Jvm.Cond.methodLink "TrialDeskLaw" (132 : Nat) ({ cls := "TrialDeskModel", name := "entry", desc := "(II)I" } : Jvm.MethodName)) ∈ TB := TB_4 (i := 188) rfl rfl
theorem a4_189 : (Jvm.Cond.instanceMethod ({ cls := "TrialDeskModel", name := "entry", desc := "(II)I" } : Jvm.MethodName)) ∈ TB := TB_4 (i := 189) rfl rfl
theorem a4_190 : (Jvm.Cond.selects "TrialDeskModel" ({ cls := "TrialDeskModel", name := "entry", desc := "(II)I" } : Jvm.MethodName) ({ cls := "TrialDeskModel", name := "entry", desc := "(II)I" } : Jvm.MethodName)) ∈ TB := TB_4 (i := 190) rfl rfl
theorem a4_191 : (Jvm.Cond.code ({ cls := "TrialDeskModel", name := "entry", desc := "(II)I" } : Jvm.MethodName) prog_9_method_33_code (5 : Nat) (Option.some Jvm.ClassFile.FieldType.int)) ∈ TB := TB_4 (i := 191) rfl rfl
theorem a4_192 : (Jvm.Cond.methodLink "TrialDeskLaw" (135 : Nat) ({ cls := "TrialDeskModel", name := "blocks", desc := "(I)I" } : Jvm.MethodName)) ∈ TB := TB_4 (i := 192) rfl rfl
theorem a4_193 : (Jvm.Cond.instanceMethod ({ cls := "TrialDeskModel", name := "blocks", desc := "(I)I" } : Jvm.MethodName)) ∈ TB := TB_4 (i := 193) rfl rfl
theorem a4_194 : (Jvm.Cond.selects "TrialDeskModel" ({ cls := "TrialDeskModel", name := "blocks", desc := "(I)I" } : Jvm.MethodName) ({ cls := "TrialDeskModel", name := "blocks", desc := "(I)I" } : Jvm.MethodName)) ∈ TB := TB_4 (i := 194) rfl rfl
theorem a4_195 : (Jvm.Cond.code ({ cls := "TrialDeskModel", name := "blocks", desc := "(I)I" } : Jvm.MethodName) prog_9_method_34_code (2 : Nat) (Option.some Jvm.ClassFile.FieldType.int)) ∈ TB := TB_4 (i := 195) rfl rfl
theorem a4_196 : (Jvm.Cond.methodLink "TrialDeskLaw" (138 : Nat) ({ cls := "TrialDeskModel", name := "stock", desc := "(II)I" } : Jvm.MethodName)) ∈ TB := TB_4 (i := 196) rfl rfl
theorem a4_197 : (Jvm.Cond.instanceMethod ({ cls := "TrialDeskModel", name := "stock", desc := "(II)I" } : Jvm.MethodName)) ∈ TB := TB_4 (i := 197) rfl rfl
theorem a4_198 : (Jvm.Cond.selects "TrialDeskModel" ({ cls := "TrialDeskModel", name := "stock", desc := "(II)I" } : Jvm.MethodName) ({ cls := "TrialDeskModel", name := "stock", desc := "(II)I" } : Jvm.MethodName)) ∈ TB := TB_4 (i := 198) rfl rfl
theorem a4_199 : (Jvm.Cond.code ({ cls := "TrialDeskModel", name := "stock", desc := "(II)I" } : Jvm.MethodName) prog_9_method_35_code (5 : Nat) (Option.some Jvm.ClassFile.FieldType.int)) ∈ TB := TB_4 (i := 199) rfl rfl
theorem a4_200 : (Jvm.Cond.methodLink "TrialDeskLaw" (141 : Nat) ({ cls := "TrialDeskModel", name := "used", desc := "(I)I" } : Jvm.MethodName)) ∈ TB := TB_4 (i := 200) rfl rfl
theorem a4_201 : (Jvm.Cond.instanceMethod ({ cls := "TrialDeskModel", name := "used", desc := "(I)I" } : Jvm.MethodName)) ∈ TB := TB_4 (i := 201) rfl rfl
theorem a4_202 : (Jvm.Cond.selects "TrialDeskModel" ({ cls := "TrialDeskModel", name := "used", desc := "(I)I" } : Jvm.MethodName) ({ cls := "TrialDeskModel", name := "used", desc := "(I)I" } : Jvm.MethodName)) ∈ TB := TB_4 (i := 202) rfl rfl
theorem a4_203 : (Jvm.Cond.code ({ cls := "TrialDeskModel", name := "used", desc := "(I)I" } : Jvm.MethodName) prog_9_method_36_code (3 : Nat) (Option.some Jvm.ClassFile.FieldType.int)) ∈ TB := TB_4 (i := 203) rfl rfl
theorem a4_204 : (Jvm.Cond.methodLink "TrialDeskLaw" (145 : Nat) ({ cls := "TrialDeskModel", name := "tear", desc := "()V" } : Jvm.MethodName)) ∈ TB := TB_4 (i := 204) rfl rfl
theorem a4_205 : (Jvm.Cond.instanceMethod ({ cls := "TrialDeskModel", name := "tear", desc := "()V" } : Jvm.MethodName)) ∈ TB := TB_4 (i := 205) rfl rfl
theorem a4_206 : (Jvm.Cond.selects "TrialDeskModel" ({ cls := "TrialDeskModel", name := "tear", desc := "()V" } : Jvm.MethodName) ({ cls := "TrialDeskModel", name := "tear", desc := "()V" } : Jvm.MethodName)) ∈ TB := TB_4 (i := 206) rfl rfl
theorem a4_207 : (Jvm.Cond.code ({ cls := "TrialDeskModel", name := "tear", desc := "()V" } : Jvm.MethodName) prog_9_method_37_code (1 : Nat) (Option.none : Option Jvm.ClassFile.FieldType)) ∈ TB := TB_4 (i := 207) rfl rfl
theorem a4_208 : (Jvm.Cond.methodLink "TrialDeskLaw" (149 : Nat) ({ cls := "TrialDeskModel", name := "mount", desc := "()I" } : Jvm.MethodName)) ∈ TB := TB_4 (i := 208) rfl rfl
theorem a4_209 : (Jvm.Cond.instanceMethod ({ cls := "TrialDeskModel", name := "mount", desc := "()I" } : Jvm.MethodName)) ∈ TB := TB_4 (i := 209) rfl rfl
theorem a4_210 : (Jvm.Cond.selects "TrialDeskModel" ({ cls := "TrialDeskModel", name := "mount", desc := "()I" } : Jvm.MethodName) ({ cls := "TrialDeskModel", name := "mount", desc := "()I" } : Jvm.MethodName)) ∈ TB := TB_4 (i := 210) rfl rfl
theorem a4_211 : (Jvm.Cond.code ({ cls := "TrialDeskModel", name := "mount", desc := "()I" } : Jvm.MethodName) prog_9_method_38_code (1 : Nat) (Option.some Jvm.ClassFile.FieldType.int)) ∈ TB := TB_4 (i := 211) rfl rfl
theorem a4_212 : (Jvm.Cond.constantLong "TrialDeskLaw" (79 : Nat) (4294967295 : Int64)) ∈ TB := TB_4 (i := 212) rfl rfl
theorem a4_213 : (Jvm.Cond.sameMethod "java/lang/Throwable" "java/lang/Throwable" "fillInStackTrace" "(I)Ljava/lang/Throwable;") ∈ TB := TB_4 (i := 213) rfl rfl
end
section
def R_TD : String := "TrialDesk"
def F_TD : u_T := fun k => match k with
  | 0 => ("TrialDesk", "plan", "LTrialDesk$Plan;", true)
  | 1 => ("TrialDesk", "journal", "LTrialDesk$Journal;", true)
  | 2 => ("TrialDesk", "shelf", "LTrialDesk$Shelf;", true)
  | 3 => ("TrialDesk", "sites", "[LTrialDesk$Site;", true)
  | 4 => ("TrialDesk", "strata", "[LTrialDesk$Stratum;", true)
  | 5 => ("TrialDesk", "picked", "[I", true)
  | 6 => ("TrialDesk", "siteCount", "I", false)
  | _ => ("TrialDesk", "opened", "Z", false)
def t_TD : Nat → FieldType := fun k => match k with
  | 0 => .object "TrialDesk$Plan"
  | 1 => .object "TrialDesk$Journal"
  | 2 => .object "TrialDesk$Shelf"
  | 3 => .array (.object "TrialDesk$Site")
  | 4 => .array (.object "TrialDesk$Stratum")
  | 5 => .array .int
  | 6 => .int
  | _ => .boolean
def R_Jo : String := "TrialDesk$Journal"
def F_Jo : u_T := fun k => match k with
  | 0 => ("TrialDesk$Journal", "down", "Z", false)
  | 1 => ("TrialDesk$Journal", "tearing", "Z", false)
  | _ => ("TrialDesk$Journal", "records", "I", false)
def t_Jo : Nat → FieldType := fun k => match k with
  | 0 => .boolean
  | 1 => .boolean
  | _ => .int
def R_Pl : String := "TrialDesk$Plan"
def F_Pl : u_T := fun k => match k with
  | 0 => ("TrialDesk$Plan", "weights", "[I", true)
  | 1 => ("TrialDesk$Plan", "armCount", "I", false)
  | 2 => ("TrialDesk$Plan", "total", "I", false)
  | _ => ("TrialDesk$Plan", "size", "I", false)
def t_Pl : Nat → FieldType := fun k => match k with
  | 0 => .array .int
  | 1 => .int
  | 2 => .int
  | _ => .int
def R_Re : String := "TrialDesk$Reserve"
def F_Re : u_T := fun k => match k with
  | 0 => ("TrialDesk$Reserve", "entryKits", "[I", true)
  | 1 => ("TrialDesk$Reserve", "length", "I", false)
  | _ => ("TrialDesk$Reserve", "next", "I", false)
def t_Re : Nat → FieldType := fun k => match k with
  | 0 => .array .int
  | 1 => .int
  | _ => .int
def R_Sh : String := "TrialDesk$Shelf"
def F_Sh : u_T := fun k => match k with
  | 0 => ("TrialDesk$Shelf", "homes", "[I", true)
  | 1 => ("TrialDesk$Shelf", "forArm", "[I", true)
  | 2 => ("TrialDesk$Shelf", "states", "[I", true)
  | _ => ("TrialDesk$Shelf", "users", "[I", true)
def t_Sh : Nat → FieldType := fun k => match k with
  | 0 => .array .int
  | 1 => .array .int
  | 2 => .array .int
  | _ => .array .int
def R_Si : String := "TrialDesk$Site"
def F_Si : u_T := fun k => match k with
  | 0 => ("TrialDesk$Site", "standing", "[I", true)
  | 1 => ("TrialDesk$Site", "inStratum", "[I", true)
  | 2 => ("TrialDesk$Site", "withArm", "[I", true)
  | 3 => ("TrialDesk$Site", "keyHolders", "[I", true)
  | 4 => ("TrialDesk$Site", "reserves", "[LTrialDesk$Reserve;", true)
  | _ => ("TrialDesk$Site", "closed", "Z", false)
def t_Si : Nat → FieldType := fun k => match k with
  | 0 => .array .int
  | 1 => .array .int
  | 2 => .array .int
  | 3 => .array .int
  | 4 => .array (.object "TrialDesk$Reserve")
  | _ => .boolean
def R_St : String := "TrialDesk$Stratum"
def F_St : u_T := fun k => match k with
  | 0 => ("TrialDesk$Stratum", "plan", "LTrialDesk$Plan;", true)
  | 1 => ("TrialDesk$Stratum", "number", "I", true)
  | 2 => ("TrialDesk$Stratum", "known", "[I", true)
  | 3 => ("TrialDesk$Stratum", "list", "[I", false)
  | 4 => ("TrialDesk$Stratum", "word", "J", false)
  | 5 => ("TrialDesk$Stratum", "built", "I", false)
  | 6 => ("TrialDesk$Stratum", "taken", "I", false)
  | 7 => ("TrialDesk$Stratum", "openNext", "I", false)
  | _ => ("TrialDesk$Stratum", "openLeft", "I", false)
def t_St : Nat → FieldType := fun k => match k with
  | 0 => .object "TrialDesk$Plan"
  | 1 => .int
  | 2 => .array .int
  | 3 => .array .int
  | 4 => .long
  | 5 => .int
  | 6 => .int
  | 7 => .int
  | _ => .int
def R_Mo : String := "TrialDeskModel"
def F_Mo : u_T := fun k => match k with
  | 0 => ("TrialDeskModel", "thrown", "I", false)
  | 1 => ("TrialDeskModel", "down", "Z", false)
  | 2 => ("TrialDeskModel", "torn", "Z", false)
  | 3 => ("TrialDeskModel", "records", "I", false)
  | 4 => ("TrialDeskModel", "opened", "Z", false)
  | 5 => ("TrialDeskModel", "arms", "I", false)
  | 6 => ("TrialDeskModel", "size", "I", false)
  | 7 => ("TrialDeskModel", "seed", "J", false)
  | 8 => ("TrialDeskModel", "weights", "[I", true)
  | 9 => ("TrialDeskModel", "taken", "I", false)
  | 10 => ("TrialDeskModel", "blockOf", "[I", true)
  | 11 => ("TrialDeskModel", "entries", "[B", true)
  | 12 => ("TrialDeskModel", "many", "[I", true)
  | 13 => ("TrialDeskModel", "words", "[J", true)
  | 14 => ("TrialDeskModel", "openBlock", "[I", true)
  | 15 => ("TrialDeskModel", "openNext", "[I", true)
  | 16 => ("TrialDeskModel", "sites", "[I", true)
  | 17 => ("TrialDeskModel", "kitSite", "[I", true)
  | 18 => ("TrialDeskModel", "kitArm", "[I", true)
  | 19 => ("TrialDeskModel", "kitIs", "[I", true)
  | 20 => ("TrialDeskModel", "people", "[I", true)
  | 21 => ("TrialDeskModel", "stratumOf", "[I", true)
  | 22 => ("TrialDeskModel", "armOf", "[I", true)
  | 23 => ("TrialDeskModel", "kitOf", "[I", true)
  | 24 => ("TrialDeskModel", "keys", "[I", true)
  | 25 => ("TrialDeskModel", "reserves", "[I", true)
  | 26 => ("TrialDeskModel", "reserveNext", "[I", true)
  | _ => ("TrialDeskModel", "reserveKits", "[I", true)
def t_Mo : Nat → FieldType := fun k => match k with
  | 0 => .int
  | 1 => .boolean
  | 2 => .boolean
  | 3 => .int
  | 4 => .boolean
  | 5 => .int
  | 6 => .int
  | 7 => .long
  | 8 => .array .int
  | 9 => .int
  | 10 => .array .int
  | 11 => .array .byte
  | 12 => .array .int
  | 13 => .array .long
  | 14 => .array .int
  | 15 => .array .int
  | 16 => .array .int
  | 17 => .array .int
  | 18 => .array .int
  | 19 => .array .int
  | 20 => .array .int
  | 21 => .array .int
  | 22 => .array .int
  | 23 => .array .int
  | 24 => .array .int
  | 25 => .array .int
  | 26 => .array .int
  | _ => .array .int
def R_La : String := "TrialDeskLaw"
abbrev zcls : List vw_C := [(R_TD, F_TD, 8), (R_Jo, F_Jo, 3), (R_Pl, F_Pl, 4), (R_Re, F_Re, 3), (R_Sh, F_Sh, 4), (R_Si, F_Si, 6), (R_St, F_St, 9), (R_Mo, F_Mo, 28)]
theorem k_TD : zCl TB zcls 0 R_TD F_TD 8 t_TD := ⟨rfl, by decide +kernel, by decide +kernel, by decide +kernel⟩
theorem k_Jo : zCl TB zcls 1 R_Jo F_Jo 3 t_Jo := ⟨rfl, by decide +kernel, by decide +kernel, by decide +kernel⟩
theorem k_Pl : zCl TB zcls 2 R_Pl F_Pl 4 t_Pl := ⟨rfl, by decide +kernel, by decide +kernel, by decide +kernel⟩
theorem k_Re : zCl TB zcls 3 R_Re F_Re 3 t_Re := ⟨rfl, by decide +kernel, by decide +kernel, by decide +kernel⟩
theorem k_Sh : zCl TB zcls 4 R_Sh F_Sh 4 t_Sh := ⟨rfl, by decide +kernel, by decide +kernel, by decide +kernel⟩
theorem k_Si : zCl TB zcls 5 R_Si F_Si 6 t_Si := ⟨rfl, by decide +kernel, by decide +kernel, by decide +kernel⟩
theorem k_St : zCl TB zcls 6 R_St F_St 9 t_St := ⟨rfl, by decide +kernel, by decide +kernel, by decide +kernel⟩
theorem k_Mo : zCl TB zcls 7 R_Mo F_Mo 28 t_Mo := ⟨rfl, by decide +kernel, by decide +kernel, by decide +kernel⟩
abbrev b_TD_init : ByteArray := prog_1_method_1_code
def y_TD_init : MethodName := ⟨R_TD, "<init>", "()V"⟩
abbrev b_TD_arms : ByteArray := prog_1_method_2_code
def y_TD_arms : MethodName := ⟨R_TD, "arms", "(IIIIIJ)V"⟩
abbrev b_TD_site : ByteArray := prog_1_method_3_code
def y_TD_site : MethodName := ⟨R_TD, "site", "(I)I"⟩
abbrev b_TD_kits : ByteArray := prog_1_method_4_code
def y_TD_kits : MethodName := ⟨R_TD, "kits", "(IIII)I"⟩
abbrev b_TD_allot : ByteArray := prog_1_method_5_code
def y_TD_allot : MethodName := ⟨R_TD, "allot", "(III)I"⟩
abbrev b_TD_reserve : ByteArray := prog_1_method_6_code
def y_TD_reserve : MethodName := ⟨R_TD, "reserve", "(II)I"⟩
abbrev b_TD_offline : ByteArray := prog_1_method_7_code
def y_TD_offline : MethodName := ⟨R_TD, "offline", "(III)I"⟩
abbrev b_TD_report : ByteArray := prog_1_method_8_code
def y_TD_report : MethodName := ⟨R_TD, "report", "(I)I"⟩
abbrev b_TD_close : ByteArray := prog_1_method_9_code
def y_TD_close : MethodName := ⟨R_TD, "close", "(I)I"⟩
abbrev b_TD_key : ByteArray := prog_1_method_10_code
def y_TD_key : MethodName := ⟨R_TD, "key", "(III)I"⟩
abbrev b_TD_arm : ByteArray := prog_1_method_11_code
def y_TD_arm : MethodName := ⟨R_TD, "arm", "(II)I"⟩
abbrev b_TD_open : ByteArray := prog_1_method_12_code
def y_TD_open : MethodName := ⟨R_TD, "open", "(II)I"⟩
abbrev b_TD_count : ByteArray := prog_1_method_13_code
def y_TD_count : MethodName := ⟨R_TD, "count", "(II)I"⟩
abbrev b_TD_spread : ByteArray := prog_1_method_14_code
def y_TD_spread : MethodName := ⟨R_TD, "spread", "(I)I"⟩
abbrev b_TD_entry : ByteArray := prog_1_method_15_code
def y_TD_entry : MethodName := ⟨R_TD, "entry", "(II)I"⟩
abbrev b_TD_blocks : ByteArray := prog_1_method_16_code
def y_TD_blocks : MethodName := ⟨R_TD, "blocks", "(I)I"⟩
abbrev b_TD_stock : ByteArray := prog_1_method_17_code
def y_TD_stock : MethodName := ⟨R_TD, "stock", "(II)I"⟩
abbrev b_TD_used : ByteArray := prog_1_method_18_code
def y_TD_used : MethodName := ⟨R_TD, "used", "(I)I"⟩
abbrev b_TD_tear : ByteArray := prog_1_method_19_code
def y_TD_tear : MethodName := ⟨R_TD, "tear", "()V"⟩
abbrev b_TD_mount : ByteArray := prog_1_method_20_code
def y_TD_mount : MethodName := ⟨R_TD, "mount", "()I"⟩
abbrev b_TD_areWeights : ByteArray := prog_1_method_21_code
def y_TD_areWeights : MethodName := ⟨R_TD, "areWeights", "(IIII)Z"⟩
abbrev b_TD_isWeight : ByteArray := prog_1_method_22_code
def y_TD_isWeight : MethodName := ⟨R_TD, "isWeight", "(II)Z"⟩
abbrev b_TD_isSize : ByteArray := prog_1_method_23_code
def y_TD_isSize : MethodName := ⟨R_TD, "isSize", "(II)Z"⟩
abbrev b_TD_isAnyBlockTaken : ByteArray := prog_1_method_24_code
def y_TD_isAnyBlockTaken : MethodName := ⟨R_TD, "isAnyBlockTaken", "()Z"⟩
theorem s_TD_isAnyBlockTaken : Cond.selects R_TD y_TD_isAnyBlockTaken y_TD_isAnyBlockTaken ∈ TB := TB_0 (i := 1) (by decide +kernel) (by decide +kernel)
abbrev b_TD_siteAt : ByteArray := prog_1_method_25_code
def y_TD_siteAt : MethodName := ⟨R_TD, "siteAt", "(I)LTrialDesk$Site;"⟩
theorem s_TD_siteAt : Cond.selects R_TD y_TD_siteAt y_TD_siteAt ∈ TB := TB_0 (i := 3) (by decide +kernel) (by decide +kernel)
abbrev b_TD_stratumAt : ByteArray := prog_1_method_26_code
def y_TD_stratumAt : MethodName := ⟨R_TD, "stratumAt", "(I)LTrialDesk$Stratum;"⟩
theorem s_TD_stratumAt : Cond.selects R_TD y_TD_stratumAt y_TD_stratumAt ∈ TB := TB_0 (i := 2) (by decide +kernel) (by decide +kernel)
abbrev b_TD_needArm : ByteArray := prog_1_method_27_code
def y_TD_needArm : MethodName := ⟨R_TD, "needArm", "(I)V"⟩
theorem s_TD_needArm : Cond.selects R_TD y_TD_needArm y_TD_needArm ∈ TB := TB_0 (i := 4) (by decide +kernel) (by decide +kernel)
abbrev b_TD_needKit : ByteArray := prog_1_method_28_code
def y_TD_needKit : MethodName := ⟨R_TD, "needKit", "(I)V"⟩
abbrev b_TD_needPerson : ByteArray := prog_1_method_29_code
def y_TD_needPerson : MethodName := ⟨R_TD, "needPerson", "(I)V"⟩
abbrev b_TD_needHolder : ByteArray := prog_1_method_30_code
def y_TD_needHolder : MethodName := ⟨R_TD, "needHolder", "(I)V"⟩
abbrev b_TD_needPlan : ByteArray := prog_1_method_31_code
def y_TD_needPlan : MethodName := ⟨R_TD, "needPlan", "()V"⟩
theorem s_TD_needPlan : Cond.selects R_TD y_TD_needPlan y_TD_needPlan ∈ TB := TB_0 (i := 5) (by decide +kernel) (by decide +kernel)
abbrev b_TD_pickKits : ByteArray := prog_1_method_32_code
def y_TD_pickKits : MethodName := ⟨R_TD, "pickKits", "(ILTrialDesk$Stratum;)Z"⟩
theorem s_TD_pickKits : Cond.selects R_TD y_TD_pickKits y_TD_pickKits ∈ TB := TB_0 (i := 14) (by decide +kernel) (by decide +kernel)
abbrev b_Jo_init : ByteArray := prog_2_method_1_code
def y_Jo_init : MethodName := ⟨R_Jo, "<init>", "()V"⟩
abbrev b_Jo_tearNext : ByteArray := prog_2_method_2_code
def y_Jo_tearNext : MethodName := ⟨R_Jo, "tearNext", "()V"⟩
abbrev b_Jo_write : ByteArray := prog_2_method_3_code
def y_Jo_write : MethodName := ⟨R_Jo, "write", "()Z"⟩
abbrev b_Pl_init : ByteArray := prog_3_method_1_code
def y_Pl_init : MethodName := ⟨R_Pl, "<init>", "()V"⟩
abbrev b_Pl_set : ByteArray := prog_3_method_2_code
def y_Pl_set : MethodName := ⟨R_Pl, "set", "(IIIII)V"⟩
abbrev b_Pl_weightOf : ByteArray := prog_3_method_3_code
def y_Pl_weightOf : MethodName := ⟨R_Pl, "weightOf", "(I)I"⟩
abbrev b_Pl_entriesOf : ByteArray := prog_3_method_4_code
def y_Pl_entriesOf : MethodName := ⟨R_Pl, "entriesOf", "(I)I"⟩
abbrev b_Re_init : ByteArray := prog_4_method_1_code
def y_Re_init : MethodName := ⟨R_Re, "<init>", "()V"⟩
abbrev b_Re_fill : ByteArray := prog_4_method_2_code
def y_Re_fill : MethodName := ⟨R_Re, "fill", "([II)V"⟩
abbrev b_Re_nextKit : ByteArray := prog_4_method_3_code
def y_Re_nextKit : MethodName := ⟨R_Re, "nextKit", "()I"⟩
abbrev b_Re_drop : ByteArray := prog_4_method_4_code
def y_Re_drop : MethodName := ⟨R_Re, "drop", "()V"⟩
abbrev b_Sh_init : ByteArray := prog_5_method_1_code
def y_Sh_init : MethodName := ⟨R_Sh, "<init>", "()V"⟩
abbrev b_Sh_hasAny : ByteArray := prog_5_method_2_code
def y_Sh_hasAny : MethodName := ⟨R_Sh, "hasAny", "(II)Z"⟩
abbrev b_Sh_put : ByteArray := prog_5_method_3_code
def y_Sh_put : MethodName := ⟨R_Sh, "put", "(IIII)V"⟩
abbrev b_Sh_tally : ByteArray := prog_5_method_4_code
def y_Sh_tally : MethodName := ⟨R_Sh, "tally", "(II)I"⟩
abbrev b_Sh_tallyFree : ByteArray := prog_5_method_5_code
def y_Sh_tallyFree : MethodName := ⟨R_Sh, "tallyFree", "(II)I"⟩
abbrev b_Sh_leastFree : ByteArray := prog_5_method_6_code
def y_Sh_leastFree : MethodName := ⟨R_Sh, "leastFree", "(III)I"⟩
abbrev b_Sh_use : ByteArray := prog_5_method_7_code
def y_Sh_use : MethodName := ⟨R_Sh, "use", "(II)V"⟩
abbrev b_Sh_markAll : ByteArray := prog_5_method_8_code
def y_Sh_markAll : MethodName := ⟨R_Sh, "markAll", "([II)V"⟩
abbrev b_Sh_freeMarked : ByteArray := prog_5_method_9_code
def y_Sh_freeMarked : MethodName := ⟨R_Sh, "freeMarked", "(I)V"⟩
abbrev b_Sh_armOf : ByteArray := prog_5_method_10_code
def y_Sh_armOf : MethodName := ⟨R_Sh, "armOf", "(I)I"⟩
abbrev b_Sh_userOf : ByteArray := prog_5_method_11_code
def y_Sh_userOf : MethodName := ⟨R_Sh, "userOf", "(I)I"⟩
abbrev b_Sh_isFree : ByteArray := prog_5_method_12_code
def y_Sh_isFree : MethodName := ⟨R_Sh, "isFree", "(III)Z"⟩
theorem s_Sh_isFree : Cond.selects R_Sh y_Sh_isFree y_Sh_isFree ∈ TB := TB_0 (i := 6) (by decide +kernel) (by decide +kernel)
abbrev b_Sh_isKit : ByteArray := prog_5_method_13_code
def y_Sh_isKit : MethodName := ⟨R_Sh, "isKit", "(I)Z"⟩
abbrev b_Si_init : ByteArray := prog_6_method_1_code
def y_Si_init : MethodName := ⟨R_Si, "<init>", "()V"⟩
abbrev b_Si_isAllotted : ByteArray := prog_6_method_2_code
def y_Si_isAllotted : MethodName := ⟨R_Si, "isAllotted", "(I)Z"⟩
abbrev b_Si_isKnown : ByteArray := prog_6_method_3_code
def y_Si_isKnown : MethodName := ⟨R_Si, "isKnown", "(I)Z"⟩
abbrev b_Si_enrol : ByteArray := prog_6_method_4_code
def y_Si_enrol : MethodName := ⟨R_Si, "enrol", "(IIII)V"⟩
abbrev b_Si_tell : ByteArray := prog_6_method_5_code
def y_Si_tell : MethodName := ⟨R_Si, "tell", "(I)Z"⟩
abbrev b_Si_stratumOf : ByteArray := prog_6_method_6_code
def y_Si_stratumOf : MethodName := ⟨R_Si, "stratumOf", "(I)I"⟩
abbrev b_Si_armOf : ByteArray := prog_6_method_7_code
def y_Si_armOf : MethodName := ⟨R_Si, "armOf", "(I)I"⟩
abbrev b_Si_addKey : ByteArray := prog_6_method_8_code
def y_Si_addKey : MethodName := ⟨R_Si, "addKey", "(II)V"⟩
abbrev b_Si_keyCount : ByteArray := prog_6_method_9_code
def y_Si_keyCount : MethodName := ⟨R_Si, "keyCount", "(I)I"⟩
abbrev b_Si_reserveFor : ByteArray := prog_6_method_10_code
def y_Si_reserveFor : MethodName := ⟨R_Si, "reserveFor", "(I)LTrialDesk$Reserve;"⟩
abbrev b_Si_entriesLeft : ByteArray := prog_6_method_11_code
def y_Si_entriesLeft : MethodName := ⟨R_Si, "entriesLeft", "()I"⟩
abbrev b_Si_dropReserves : ByteArray := prog_6_method_12_code
def y_Si_dropReserves : MethodName := ⟨R_Si, "dropReserves", "()V"⟩
abbrev b_Si_isPerson : ByteArray := prog_6_method_13_code
def y_Si_isPerson : MethodName := ⟨R_Si, "isPerson", "(I)Z"⟩
abbrev b_St_init : ByteArray := prog_7_method_1_code
def y_St_init : MethodName := ⟨R_St, "<init>", "(LTrialDesk$Plan;I)V"⟩
abbrev b_St_restart : ByteArray := prog_7_method_2_code
def y_St_restart : MethodName := ⟨R_St, "restart", "(J)V"⟩
abbrev b_St_nextArm : ByteArray := prog_7_method_3_code
def y_St_nextArm : MethodName := ⟨R_St, "nextArm", "()I"⟩
abbrev b_St_armAhead : ByteArray := prog_7_method_4_code
def y_St_armAhead : MethodName := ⟨R_St, "armAhead", "(I)I"⟩
abbrev b_St_takenArm : ByteArray := prog_7_method_5_code
def y_St_takenArm : MethodName := ⟨R_St, "takenArm", "(I)I"⟩
abbrev b_St_takeEntry : ByteArray := prog_7_method_6_code
def y_St_takeEntry : MethodName := ⟨R_St, "takeEntry", "()V"⟩
abbrev b_St_takeBlock : ByteArray := prog_7_method_7_code
def y_St_takeBlock : MethodName := ⟨R_St, "takeBlock", "()I"⟩
abbrev b_St_addKnown : ByteArray := prog_7_method_8_code
def y_St_addKnown : MethodName := ⟨R_St, "addKnown", "(I)V"⟩
abbrev b_St_knownWith : ByteArray := prog_7_method_9_code
def y_St_knownWith : MethodName := ⟨R_St, "knownWith", "(I)I"⟩
abbrev b_St_widestGap : ByteArray := prog_7_method_10_code
def y_St_widestGap : MethodName := ⟨R_St, "widestGap", "()I"⟩
abbrev b_St_armAt : ByteArray := prog_7_method_11_code
def y_St_armAt : MethodName := ⟨R_St, "armAt", "(I)I"⟩
theorem s_St_armAt : Cond.selects R_St y_St_armAt y_St_armAt ∈ TB := TB_0 (i := 7) (by decide +kernel) (by decide +kernel)
abbrev b_St_build : ByteArray := prog_7_method_12_code
def y_St_build : MethodName := ⟨R_St, "build", "()V"⟩
theorem s_St_build : Cond.selects R_St y_St_build y_St_build ∈ TB := TB_0 (i := 8) (by decide +kernel) (by decide +kernel)
abbrev b_St_makeRoom : ByteArray := prog_7_method_13_code
def y_St_makeRoom : MethodName := ⟨R_St, "makeRoom", "(I)V"⟩
theorem s_St_makeRoom : Cond.selects R_St y_St_makeRoom y_St_makeRoom ∈ TB := TB_0 (i := 9) (by decide +kernel) (by decide +kernel)
abbrev b_St_layArms : ByteArray := prog_7_method_14_code
def y_St_layArms : MethodName := ⟨R_St, "layArms", "(I)V"⟩
theorem s_St_layArms : Cond.selects R_St y_St_layArms y_St_layArms ∈ TB := TB_0 (i := 10) (by decide +kernel) (by decide +kernel)
abbrev b_St_shuffle : ByteArray := prog_7_method_15_code
def y_St_shuffle : MethodName := ⟨R_St, "shuffle", "(I)V"⟩
theorem s_St_shuffle : Cond.selects R_St y_St_shuffle y_St_shuffle ∈ TB := TB_0 (i := 11) (by decide +kernel) (by decide +kernel)
abbrev b_St_swap : ByteArray := prog_7_method_16_code
def y_St_swap : MethodName := ⟨R_St, "swap", "(II)V"⟩
theorem s_St_swap : Cond.selects R_St y_St_swap y_St_swap ∈ TB := TB_0 (i := 13) (by decide +kernel) (by decide +kernel)
abbrev b_St_draw : ByteArray := prog_7_method_17_code
def y_St_draw : MethodName := ⟨R_St, "draw", "(I)I"⟩
theorem s_St_draw : Cond.selects R_St y_St_draw y_St_draw ∈ TB := TB_0 (i := 12) (by decide +kernel) (by decide +kernel)
abbrev b_Mo_init : ByteArray := prog_9_method_1_code
def y_Mo_init : MethodName := ⟨R_Mo, "<init>", "()V"⟩
abbrev b_Mo_thrown : ByteArray := prog_9_method_2_code
def y_Mo_thrown : MethodName := ⟨R_Mo, "thrown", "()I"⟩
abbrev b_Mo_refused : ByteArray := prog_9_method_3_code
def y_Mo_refused : MethodName := ⟨R_Mo, "refused", "(ZZZ)Z"⟩
theorem s_Mo_refused : Cond.selects R_Mo y_Mo_refused y_Mo_refused ∈ TB := TB_0 (i := 15) (by decide +kernel) (by decide +kernel)
abbrev b_Mo_within : ByteArray := prog_9_method_4_code
def y_Mo_within : MethodName := ⟨R_Mo, "within", "(III)Z"⟩
abbrev b_Mo_isSite : ByteArray := prog_9_method_5_code
def y_Mo_isSite : MethodName := ⟨R_Mo, "isSite", "(I)Z"⟩
theorem s_Mo_isSite : Cond.selects R_Mo y_Mo_isSite y_Mo_isSite ∈ TB := TB_0 (i := 17) (by decide +kernel) (by decide +kernel)
abbrev b_Mo_isStratum : ByteArray := prog_9_method_6_code
def y_Mo_isStratum : MethodName := ⟨R_Mo, "isStratum", "(I)Z"⟩
abbrev b_Mo_isPerson : ByteArray := prog_9_method_7_code
def y_Mo_isPerson : MethodName := ⟨R_Mo, "isPerson", "(II)Z"⟩
theorem s_Mo_isPerson : Cond.selects R_Mo y_Mo_isPerson y_Mo_isPerson ∈ TB := TB_0 (i := 20) (by decide +kernel) (by decide +kernel)
abbrev b_Mo_isArm : ByteArray := prog_9_method_8_code
def y_Mo_isArm : MethodName := ⟨R_Mo, "isArm", "(I)Z"⟩
theorem s_Mo_isArm : Cond.selects R_Mo y_Mo_isArm y_Mo_isArm ∈ TB := TB_0 (i := 18) (by decide +kernel) (by decide +kernel)
abbrev b_Mo_writes : ByteArray := prog_9_method_9_code
def y_Mo_writes : MethodName := ⟨R_Mo, "writes", "()Z"⟩
theorem s_Mo_writes : Cond.selects R_Mo y_Mo_writes y_Mo_writes ∈ TB := TB_0 (i := 16) (by decide +kernel) (by decide +kernel)
abbrev b_Mo_arms : ByteArray := prog_9_method_10_code
def y_Mo_arms : MethodName := ⟨R_Mo, "arms", "(IIIIIJ)V"⟩
abbrev b_Mo_draw : ByteArray := prog_9_method_11_code
def y_Mo_draw : MethodName := ⟨R_Mo, "draw", "(II)I"⟩
theorem s_Mo_draw : Cond.selects R_Mo y_Mo_draw y_Mo_draw ∈ TB := TB_0 (i := 23) (by decide +kernel) (by decide +kernel)
abbrev b_Mo_takeBlock : ByteArray := prog_9_method_12_code
def y_Mo_takeBlock : MethodName := ⟨R_Mo, "takeBlock", "(I)I"⟩
theorem s_Mo_takeBlock : Cond.selects R_Mo y_Mo_takeBlock y_Mo_takeBlock ∈ TB := TB_0 (i := 22) (by decide +kernel) (by decide +kernel)
abbrev b_Mo_nextArm : ByteArray := prog_9_method_13_code
def y_Mo_nextArm : MethodName := ⟨R_Mo, "nextArm", "(I)I"⟩
theorem s_Mo_nextArm : Cond.selects R_Mo y_Mo_nextArm y_Mo_nextArm ∈ TB := TB_0 (i := 21) (by decide +kernel) (by decide +kernel)
abbrev b_Mo_site : ByteArray := prog_9_method_14_code
def y_Mo_site : MethodName := ⟨R_Mo, "site", "(I)I"⟩
abbrev b_Mo_free : ByteArray := prog_9_method_15_code
def y_Mo_free : MethodName := ⟨R_Mo, "free", "(II)I"⟩
theorem s_Mo_free : Cond.selects R_Mo y_Mo_free y_Mo_free ∈ TB := TB_0 (i := 19) (by decide +kernel) (by decide +kernel)
abbrev b_Mo_leastFree : ByteArray := prog_9_method_16_code
def y_Mo_leastFree : MethodName := ⟨R_Mo, "leastFree", "(II)I"⟩
theorem s_Mo_leastFree : Cond.selects R_Mo y_Mo_leastFree y_Mo_leastFree ∈ TB := TB_0 (i := 24) (by decide +kernel) (by decide +kernel)
abbrev b_Mo_kits : ByteArray := prog_9_method_17_code
def y_Mo_kits : MethodName := ⟨R_Mo, "kits", "(IIII)I"⟩
abbrev b_Mo_give : ByteArray := prog_9_method_18_code
def y_Mo_give : MethodName := ⟨R_Mo, "give", "(IIIIIZ)V"⟩
theorem s_Mo_give : Cond.selects R_Mo y_Mo_give y_Mo_give ∈ TB := TB_0 (i := 25) (by decide +kernel) (by decide +kernel)
abbrev b_Mo_allot : ByteArray := prog_9_method_19_code
def y_Mo_allot : MethodName := ⟨R_Mo, "allot", "(III)I"⟩
abbrev b_Mo_reserve : ByteArray := prog_9_method_20_code
def y_Mo_reserve : MethodName := ⟨R_Mo, "reserve", "(II)I"⟩
abbrev b_Mo_offline : ByteArray := prog_9_method_21_code
def y_Mo_offline : MethodName := ⟨R_Mo, "offline", "(III)I"⟩
abbrev b_Mo_report : ByteArray := prog_9_method_23_code
def y_Mo_report : MethodName := ⟨R_Mo, "report", "(I)I"⟩
abbrev b_Mo_close : ByteArray := prog_9_method_24_code
def y_Mo_close : MethodName := ⟨R_Mo, "close", "(I)I"⟩
abbrev b_Mo_isHolder : ByteArray := prog_9_method_25_code
def y_Mo_isHolder : MethodName := ⟨R_Mo, "isHolder", "(I)Z"⟩
abbrev b_Mo_keysOf : ByteArray := prog_9_method_26_code
def y_Mo_keysOf : MethodName := ⟨R_Mo, "keysOf", "(I)I"⟩
theorem s_Mo_keysOf : Cond.selects R_Mo y_Mo_keysOf y_Mo_keysOf ∈ TB := TB_0 (i := 26) (by decide +kernel) (by decide +kernel)
abbrev b_Mo_key : ByteArray := prog_9_method_27_code
def y_Mo_key : MethodName := ⟨R_Mo, "key", "(III)I"⟩
abbrev b_Mo_arm : ByteArray := prog_9_method_28_code
def y_Mo_arm : MethodName := ⟨R_Mo, "arm", "(II)I"⟩
abbrev b_Mo_open : ByteArray := prog_9_method_29_code
def y_Mo_open : MethodName := ⟨R_Mo, "open", "(II)I"⟩
abbrev b_Mo_known : ByteArray := prog_9_method_30_code
def y_Mo_known : MethodName := ⟨R_Mo, "known", "(II)I"⟩
theorem s_Mo_known : Cond.selects R_Mo y_Mo_known y_Mo_known ∈ TB := TB_0 (i := 27) (by decide +kernel) (by decide +kernel)
abbrev b_Mo_count : ByteArray := prog_9_method_31_code
def y_Mo_count : MethodName := ⟨R_Mo, "count", "(II)I"⟩
abbrev b_Mo_spread : ByteArray := prog_9_method_32_code
def y_Mo_spread : MethodName := ⟨R_Mo, "spread", "(I)I"⟩
abbrev b_Mo_entry : ByteArray := prog_9_method_33_code
def y_Mo_entry : MethodName := ⟨R_Mo, "entry", "(II)I"⟩
abbrev b_Mo_blocks : ByteArray := prog_9_method_34_code
def y_Mo_blocks : MethodName := ⟨R_Mo, "blocks", "(I)I"⟩
abbrev b_Mo_stock : ByteArray := prog_9_method_35_code
def y_Mo_stock : MethodName := ⟨R_Mo, "stock", "(II)I"⟩
abbrev b_Mo_used : ByteArray := prog_9_method_36_code
def y_Mo_used : MethodName := ⟨R_Mo, "used", "(I)I"⟩
abbrev b_Mo_tear : ByteArray := prog_9_method_37_code
def y_Mo_tear : MethodName := ⟨R_Mo, "tear", "()V"⟩
abbrev b_Mo_mount : ByteArray := prog_9_method_38_code
def y_Mo_mount : MethodName := ⟨R_Mo, "mount", "()I"⟩
abbrev b_La_arms : ByteArray := method_3_code
def y_La_arms : MethodName := ⟨R_La, "arms", "(LTrialDesk;IIIIIJ)I"⟩
abbrev b_La_site : ByteArray := method_4_code
def y_La_site : MethodName := ⟨R_La, "site", "(LTrialDesk;I[J)I"⟩
abbrev b_La_kits : ByteArray := method_5_code
def y_La_kits : MethodName := ⟨R_La, "kits", "(LTrialDesk;IIII[J)I"⟩
abbrev b_La_allot : ByteArray := method_6_code
def y_La_allot : MethodName := ⟨R_La, "allot", "(LTrialDesk;III[J)I"⟩
abbrev b_La_reserve : ByteArray := method_7_code
def y_La_reserve : MethodName := ⟨R_La, "reserve", "(LTrialDesk;II[J)I"⟩
abbrev b_La_offline : ByteArray := method_8_code
def y_La_offline : MethodName := ⟨R_La, "offline", "(LTrialDesk;III[J)I"⟩
abbrev b_La_report : ByteArray := method_9_code
def y_La_report : MethodName := ⟨R_La, "report", "(LTrialDesk;I[J)I"⟩
abbrev b_La_close : ByteArray := method_10_code
def y_La_close : MethodName := ⟨R_La, "close", "(LTrialDesk;I[J)I"⟩
abbrev b_La_key : ByteArray := method_11_code
def y_La_key : MethodName := ⟨R_La, "key", "(LTrialDesk;III[J)I"⟩
abbrev b_La_arm : ByteArray := method_12_code
def y_La_arm : MethodName := ⟨R_La, "arm", "(LTrialDesk;II[J)I"⟩
abbrev b_La_open : ByteArray := method_13_code
def y_La_open : MethodName := ⟨R_La, "open", "(LTrialDesk;II[J)I"⟩
abbrev b_La_count : ByteArray := method_14_code
def y_La_count : MethodName := ⟨R_La, "count", "(LTrialDesk;II[J)I"⟩
abbrev b_La_spread : ByteArray := method_15_code
def y_La_spread : MethodName := ⟨R_La, "spread", "(LTrialDesk;I[J)I"⟩
abbrev b_La_entry : ByteArray := method_16_code
def y_La_entry : MethodName := ⟨R_La, "entry", "(LTrialDesk;II[J)I"⟩
abbrev b_La_blocks : ByteArray := method_17_code
def y_La_blocks : MethodName := ⟨R_La, "blocks", "(LTrialDesk;I[J)I"⟩
abbrev b_La_stock : ByteArray := method_18_code
def y_La_stock : MethodName := ⟨R_La, "stock", "(LTrialDesk;II[J)I"⟩
abbrev b_La_used : ByteArray := method_19_code
def y_La_used : MethodName := ⟨R_La, "used", "(LTrialDesk;I[J)I"⟩
abbrev b_La_mount : ByteArray := method_20_code
def y_La_mount : MethodName := ⟨R_La, "mount", "(LTrialDesk;[J)I"⟩
abbrev b_La_law : ByteArray := code
def y_La_law : MethodName := ⟨R_La, "law", "([I)Z"⟩
end
section
theorem d_Jo_init_0 : decode b_Jo_init 0 = .ok (.aload_n 0, 1) := by decide +kernel
theorem d_Jo_init_1 : decode b_Jo_init 1 = .ok (.invokespecial 1, 3) := by decide +kernel
theorem d_Jo_init_4 : decode b_Jo_init 4 = .ok (.return_, 1) := by decide +kernel
theorem d_Jo_tearNext_0 : decode b_Jo_tearNext 0 = .ok (.aload_n 0, 1) := by decide +kernel
theorem d_Jo_tearNext_1 : decode b_Jo_tearNext 1 = .ok (.getfield 7, 3) := by decide +kernel
theorem d_Jo_tearNext_4 : decode b_Jo_tearNext 4 = .ok (.ifCond .ne 8, 3) := by decide +kernel
theorem d_Jo_tearNext_7 : decode b_Jo_tearNext 7 = .ok (.aload_n 0, 1) := by decide +kernel
theorem d_Jo_tearNext_8 : decode b_Jo_tearNext 8 = .ok (.iconst 1, 1) := by decide +kernel
theorem d_Jo_tearNext_9 : decode b_Jo_tearNext 9 = .ok (.putfield 13, 3) := by decide +kernel
theorem d_Jo_tearNext_12 : decode b_Jo_tearNext 12 = .ok (.return_, 1) := by decide +kernel
theorem d_Jo_write_0 : decode b_Jo_write 0 = .ok (.aload_n 0, 1) := by decide +kernel
theorem d_Jo_write_1 : decode b_Jo_write 1 = .ok (.getfield 13, 3) := by decide +kernel
theorem d_Jo_write_4 : decode b_Jo_write 4 = .ok (.ifCond .eq 15, 3) := by decide +kernel
theorem d_Jo_write_7 : decode b_Jo_write 7 = .ok (.aload_n 0, 1) := by decide +kernel
theorem d_Jo_write_8 : decode b_Jo_write 8 = .ok (.iconst 0, 1) := by decide +kernel
theorem d_Jo_write_9 : decode b_Jo_write 9 = .ok (.putfield 13, 3) := by decide +kernel
theorem d_Jo_write_12 : decode b_Jo_write 12 = .ok (.aload_n 0, 1) := by decide +kernel
theorem d_Jo_write_13 : decode b_Jo_write 13 = .ok (.iconst 1, 1) := by decide +kernel
theorem d_Jo_write_14 : decode b_Jo_write 14 = .ok (.putfield 7, 3) := by decide +kernel
theorem d_Jo_write_17 : decode b_Jo_write 17 = .ok (.iconst 0, 1) := by decide +kernel
theorem d_Jo_write_18 : decode b_Jo_write 18 = .ok (.ireturn, 1) := by decide +kernel
theorem d_Jo_write_19 : decode b_Jo_write 19 = .ok (.aload_n 0, 1) := by decide +kernel
theorem d_Jo_write_20 : decode b_Jo_write 20 = .ok (.dup, 1) := by decide +kernel
theorem d_Jo_write_21 : decode b_Jo_write 21 = .ok (.getfield 16, 3) := by decide +kernel
theorem d_Jo_write_24 : decode b_Jo_write 24 = .ok (.iconst 1, 1) := by decide +kernel
theorem d_Jo_write_25 : decode b_Jo_write 25 = .ok (.iadd, 1) := by decide +kernel
theorem d_Jo_write_26 : decode b_Jo_write 26 = .ok (.putfield 16, 3) := by decide +kernel
theorem d_Jo_write_29 : decode b_Jo_write 29 = .ok (.iconst 1, 1) := by decide +kernel
theorem d_Jo_write_30 : decode b_Jo_write 30 = .ok (.ireturn, 1) := by decide +kernel
theorem d_Pl_init_0 : decode b_Pl_init 0 = .ok (.aload_n 0, 1) := by decide +kernel
theorem d_Pl_init_1 : decode b_Pl_init 1 = .ok (.invokespecial 3, 3) := by decide +kernel
theorem d_Pl_init_4 : decode b_Pl_init 4 = .ok (.aload_n 0, 1) := by decide +kernel
theorem d_Pl_init_5 : decode b_Pl_init 5 = .ok (.iconst 4, 1) := by decide +kernel
theorem d_Pl_init_6 : decode b_Pl_init 6 = .ok (.newarray .int, 2) := by decide +kernel
theorem d_Pl_init_8 : decode b_Pl_init 8 = .ok (.putfield 9, 3) := by decide +kernel
theorem d_Pl_init_11 : decode b_Pl_init 11 = .ok (.return_, 1) := by decide +kernel
theorem d_Pl_set_0 : decode b_Pl_set 0 = .ok (.aload_n 0, 1) := by decide +kernel
theorem d_Pl_set_1 : decode b_Pl_set 1 = .ok (.getfield 9, 3) := by decide +kernel
theorem d_Pl_set_4 : decode b_Pl_set 4 = .ok (.iconst 0, 1) := by decide +kernel
theorem d_Pl_set_5 : decode b_Pl_set 5 = .ok (.iload_n 1, 1) := by decide +kernel
theorem d_Pl_set_6 : decode b_Pl_set 6 = .ok (.iastore, 1) := by decide +kernel
theorem d_Pl_set_7 : decode b_Pl_set 7 = .ok (.aload_n 0, 1) := by decide +kernel
theorem d_Pl_set_8 : decode b_Pl_set 8 = .ok (.getfield 9, 3) := by decide +kernel
theorem d_Pl_set_11 : decode b_Pl_set 11 = .ok (.iconst 1, 1) := by decide +kernel
theorem d_Pl_set_12 : decode b_Pl_set 12 = .ok (.iload_n 2, 1) := by decide +kernel
theorem d_Pl_set_13 : decode b_Pl_set 13 = .ok (.iastore, 1) := by decide +kernel
theorem d_Pl_set_14 : decode b_Pl_set 14 = .ok (.aload_n 0, 1) := by decide +kernel
theorem d_Pl_set_15 : decode b_Pl_set 15 = .ok (.getfield 9, 3) := by decide +kernel
theorem d_Pl_set_18 : decode b_Pl_set 18 = .ok (.iconst 2, 1) := by decide +kernel
theorem d_Pl_set_19 : decode b_Pl_set 19 = .ok (.iload_n 3, 1) := by decide +kernel
theorem d_Pl_set_20 : decode b_Pl_set 20 = .ok (.iastore, 1) := by decide +kernel
theorem d_Pl_set_21 : decode b_Pl_set 21 = .ok (.aload_n 0, 1) := by decide +kernel
theorem d_Pl_set_22 : decode b_Pl_set 22 = .ok (.getfield 9, 3) := by decide +kernel
theorem d_Pl_set_25 : decode b_Pl_set 25 = .ok (.iconst 3, 1) := by decide +kernel
theorem d_Pl_set_26 : decode b_Pl_set 26 = .ok (.iload 4, 2) := by decide +kernel
theorem d_Pl_set_28 : decode b_Pl_set 28 = .ok (.iastore, 1) := by decide +kernel
theorem d_Pl_set_29 : decode b_Pl_set 29 = .ok (.aload_n 0, 1) := by decide +kernel
theorem d_Pl_set_30 : decode b_Pl_set 30 = .ok (.iconst 2, 1) := by decide +kernel
theorem d_Pl_set_31 : decode b_Pl_set 31 = .ok (.iload_n 3, 1) := by decide +kernel
theorem d_Pl_set_32 : decode b_Pl_set 32 = .ok (.ifCond .le 7, 3) := by decide +kernel
theorem d_Pl_set_35 : decode b_Pl_set 35 = .ok (.iconst 1, 1) := by decide +kernel
theorem d_Pl_set_36 : decode b_Pl_set 36 = .ok (.goto 4, 3) := by decide +kernel
theorem d_Pl_set_39 : decode b_Pl_set 39 = .ok (.iconst 0, 1) := by decide +kernel
theorem d_Pl_set_40 : decode b_Pl_set 40 = .ok (.iadd, 1) := by decide +kernel
theorem d_Pl_set_41 : decode b_Pl_set 41 = .ok (.iload 4, 2) := by decide +kernel
theorem d_Pl_set_43 : decode b_Pl_set 43 = .ok (.ifCond .le 7, 3) := by decide +kernel
theorem d_Pl_set_46 : decode b_Pl_set 46 = .ok (.iconst 1, 1) := by decide +kernel
theorem d_Pl_set_47 : decode b_Pl_set 47 = .ok (.goto 4, 3) := by decide +kernel
theorem d_Pl_set_50 : decode b_Pl_set 50 = .ok (.iconst 0, 1) := by decide +kernel
theorem d_Pl_set_51 : decode b_Pl_set 51 = .ok (.iadd, 1) := by decide +kernel
theorem d_Pl_set_52 : decode b_Pl_set 52 = .ok (.putfield 15, 3) := by decide +kernel
theorem d_Pl_set_55 : decode b_Pl_set 55 = .ok (.aload_n 0, 1) := by decide +kernel
theorem d_Pl_set_56 : decode b_Pl_set 56 = .ok (.iload_n 1, 1) := by decide +kernel
theorem d_Pl_set_57 : decode b_Pl_set 57 = .ok (.iload_n 2, 1) := by decide +kernel
theorem d_Pl_set_58 : decode b_Pl_set 58 = .ok (.iadd, 1) := by decide +kernel
theorem d_Pl_set_59 : decode b_Pl_set 59 = .ok (.iload_n 3, 1) := by decide +kernel
theorem d_Pl_set_60 : decode b_Pl_set 60 = .ok (.iadd, 1) := by decide +kernel
theorem d_Pl_set_61 : decode b_Pl_set 61 = .ok (.iload 4, 2) := by decide +kernel
theorem d_Pl_set_63 : decode b_Pl_set 63 = .ok (.iadd, 1) := by decide +kernel
theorem d_Pl_set_64 : decode b_Pl_set 64 = .ok (.putfield 19, 3) := by decide +kernel
theorem d_Pl_set_67 : decode b_Pl_set 67 = .ok (.aload_n 0, 1) := by decide +kernel
theorem d_Pl_set_68 : decode b_Pl_set 68 = .ok (.iload 5, 2) := by decide +kernel
theorem d_Pl_set_70 : decode b_Pl_set 70 = .ok (.putfield 22, 3) := by decide +kernel
theorem d_Pl_set_73 : decode b_Pl_set 73 = .ok (.return_, 1) := by decide +kernel
theorem d_Pl_weightOf_0 : decode b_Pl_weightOf 0 = .ok (.iload_n 1, 1) := by decide +kernel
theorem d_Pl_weightOf_1 : decode b_Pl_weightOf 1 = .ok (.ifCond .lt 21, 3) := by decide +kernel
theorem d_Pl_weightOf_4 : decode b_Pl_weightOf 4 = .ok (.iload_n 1, 1) := by decide +kernel
theorem d_Pl_weightOf_5 : decode b_Pl_weightOf 5 = .ok (.aload_n 0, 1) := by decide +kernel
theorem d_Pl_weightOf_6 : decode b_Pl_weightOf 6 = .ok (.getfield 9, 3) := by decide +kernel
theorem d_Pl_weightOf_9 : decode b_Pl_weightOf 9 = .ok (.arraylength, 1) := by decide +kernel
theorem d_Pl_weightOf_10 : decode b_Pl_weightOf 10 = .ok (.if_icmp .ge 12, 3) := by decide +kernel
theorem d_Pl_weightOf_13 : decode b_Pl_weightOf 13 = .ok (.aload_n 0, 1) := by decide +kernel
theorem d_Pl_weightOf_14 : decode b_Pl_weightOf 14 = .ok (.getfield 9, 3) := by decide +kernel
theorem d_Pl_weightOf_17 : decode b_Pl_weightOf 17 = .ok (.iload_n 1, 1) := by decide +kernel
theorem d_Pl_weightOf_18 : decode b_Pl_weightOf 18 = .ok (.iaload, 1) := by decide +kernel
theorem d_Pl_weightOf_19 : decode b_Pl_weightOf 19 = .ok (.goto 4, 3) := by decide +kernel
theorem d_Pl_weightOf_22 : decode b_Pl_weightOf 22 = .ok (.iconst 0, 1) := by decide +kernel
theorem d_Pl_weightOf_23 : decode b_Pl_weightOf 23 = .ok (.ireturn, 1) := by decide +kernel
theorem d_Pl_entriesOf_0 : decode b_Pl_entriesOf 0 = .ok (.aload_n 0, 1) := by decide +kernel
theorem d_Pl_entriesOf_1 : decode b_Pl_entriesOf 1 = .ok (.getfield 19, 3) := by decide +kernel
theorem d_Pl_entriesOf_4 : decode b_Pl_entriesOf 4 = .ok (.ifCond .le 21, 3) := by decide +kernel
theorem d_Pl_entriesOf_7 : decode b_Pl_entriesOf 7 = .ok (.aload_n 0, 1) := by decide +kernel
theorem d_Pl_entriesOf_8 : decode b_Pl_entriesOf 8 = .ok (.iload_n 1, 1) := by decide +kernel
theorem d_Pl_entriesOf_9 : decode b_Pl_entriesOf 9 = .ok (.invokevirtual 25, 3) := by decide +kernel
theorem d_Pl_entriesOf_12 : decode b_Pl_entriesOf 12 = .ok (.aload_n 0, 1) := by decide +kernel
theorem d_Pl_entriesOf_13 : decode b_Pl_entriesOf 13 = .ok (.getfield 22, 3) := by decide +kernel
theorem d_Pl_entriesOf_16 : decode b_Pl_entriesOf 16 = .ok (.aload_n 0, 1) := by decide +kernel
theorem d_Pl_entriesOf_17 : decode b_Pl_entriesOf 17 = .ok (.getfield 19, 3) := by decide +kernel
theorem d_Pl_entriesOf_20 : decode b_Pl_entriesOf 20 = .ok (.idiv, 1) := by decide +kernel
theorem d_Pl_entriesOf_21 : decode b_Pl_entriesOf 21 = .ok (.imul, 1) := by decide +kernel
theorem d_Pl_entriesOf_22 : decode b_Pl_entriesOf 22 = .ok (.goto 4, 3) := by decide +kernel
theorem d_Pl_entriesOf_25 : decode b_Pl_entriesOf 25 = .ok (.iconst 0, 1) := by decide +kernel
theorem d_Pl_entriesOf_26 : decode b_Pl_entriesOf 26 = .ok (.ireturn, 1) := by decide +kernel
theorem d_Re_init_0 : decode b_Re_init 0 = .ok (.aload_n 0, 1) := by decide +kernel
theorem d_Re_init_1 : decode b_Re_init 1 = .ok (.invokespecial 3, 3) := by decide +kernel
theorem d_Re_init_4 : decode b_Re_init 4 = .ok (.aload_n 0, 1) := by decide +kernel
theorem d_Re_init_5 : decode b_Re_init 5 = .ok (.bipush 24, 2) := by decide +kernel
theorem d_Re_init_7 : decode b_Re_init 7 = .ok (.newarray .int, 2) := by decide +kernel
theorem d_Re_init_9 : decode b_Re_init 9 = .ok (.putfield 9, 3) := by decide +kernel
theorem d_Re_init_12 : decode b_Re_init 12 = .ok (.return_, 1) := by decide +kernel
theorem d_Re_fill_0 : decode b_Re_fill 0 = .ok (.iconst 0, 1) := by decide +kernel
theorem d_Re_fill_1 : decode b_Re_fill 1 = .ok (.istore_n 3, 1) := by decide +kernel
theorem d_Re_fill_2 : decode b_Re_fill 2 = .ok (.iload_n 3, 1) := by decide +kernel
theorem d_Re_fill_3 : decode b_Re_fill 3 = .ok (.iload_n 2, 1) := by decide +kernel
theorem d_Re_fill_4 : decode b_Re_fill 4 = .ok (.if_icmp .ge 33, 3) := by decide +kernel
theorem d_Re_fill_7 : decode b_Re_fill 7 = .ok (.iload_n 3, 1) := by decide +kernel
theorem d_Re_fill_8 : decode b_Re_fill 8 = .ok (.aload_n 1, 1) := by decide +kernel
theorem d_Re_fill_9 : decode b_Re_fill 9 = .ok (.arraylength, 1) := by decide +kernel
theorem d_Re_fill_10 : decode b_Re_fill 10 = .ok (.if_icmp .ge 27, 3) := by decide +kernel
theorem d_Re_fill_13 : decode b_Re_fill 13 = .ok (.iload_n 3, 1) := by decide +kernel
theorem d_Re_fill_14 : decode b_Re_fill 14 = .ok (.aload_n 0, 1) := by decide +kernel
theorem d_Re_fill_15 : decode b_Re_fill 15 = .ok (.getfield 9, 3) := by decide +kernel
theorem d_Re_fill_18 : decode b_Re_fill 18 = .ok (.arraylength, 1) := by decide +kernel
theorem d_Re_fill_19 : decode b_Re_fill 19 = .ok (.if_icmp .ge 18, 3) := by decide +kernel
theorem d_Re_fill_22 : decode b_Re_fill 22 = .ok (.aload_n 0, 1) := by decide +kernel
theorem d_Re_fill_23 : decode b_Re_fill 23 = .ok (.getfield 9, 3) := by decide +kernel
theorem d_Re_fill_26 : decode b_Re_fill 26 = .ok (.iload_n 3, 1) := by decide +kernel
theorem d_Re_fill_27 : decode b_Re_fill 27 = .ok (.aload_n 1, 1) := by decide +kernel
theorem d_Re_fill_28 : decode b_Re_fill 28 = .ok (.iload_n 3, 1) := by decide +kernel
theorem d_Re_fill_29 : decode b_Re_fill 29 = .ok (.iaload, 1) := by decide +kernel
theorem d_Re_fill_30 : decode b_Re_fill 30 = .ok (.iastore, 1) := by decide +kernel
theorem d_Re_fill_31 : decode b_Re_fill 31 = .ok (.iinc 3 1, 3) := by decide +kernel
theorem d_Re_fill_34 : decode b_Re_fill 34 = .ok (.goto (-32), 3) := by decide +kernel
theorem d_Re_fill_37 : decode b_Re_fill 37 = .ok (.aload_n 0, 1) := by decide +kernel
theorem d_Re_fill_38 : decode b_Re_fill 38 = .ok (.iload_n 2, 1) := by decide +kernel
theorem d_Re_fill_39 : decode b_Re_fill 39 = .ok (.putfield 15, 3) := by decide +kernel
theorem d_Re_fill_42 : decode b_Re_fill 42 = .ok (.aload_n 0, 1) := by decide +kernel
theorem d_Re_fill_43 : decode b_Re_fill 43 = .ok (.iconst 0, 1) := by decide +kernel
theorem d_Re_fill_44 : decode b_Re_fill 44 = .ok (.putfield 19, 3) := by decide +kernel
theorem d_Re_fill_47 : decode b_Re_fill 47 = .ok (.return_, 1) := by decide +kernel
theorem d_Re_nextKit_0 : decode b_Re_nextKit 0 = .ok (.aload_n 0, 1) := by decide +kernel
theorem d_Re_nextKit_1 : decode b_Re_nextKit 1 = .ok (.getfield 19, 3) := by decide +kernel
theorem d_Re_nextKit_4 : decode b_Re_nextKit 4 = .ok (.ifCond .lt 38, 3) := by decide +kernel
theorem d_Re_nextKit_7 : decode b_Re_nextKit 7 = .ok (.aload_n 0, 1) := by decide +kernel
theorem d_Re_nextKit_8 : decode b_Re_nextKit 8 = .ok (.getfield 19, 3) := by decide +kernel
theorem d_Re_nextKit_11 : decode b_Re_nextKit 11 = .ok (.aload_n 0, 1) := by decide +kernel
theorem d_Re_nextKit_12 : decode b_Re_nextKit 12 = .ok (.getfield 15, 3) := by decide +kernel
theorem d_Re_nextKit_15 : decode b_Re_nextKit 15 = .ok (.if_icmp .ge 27, 3) := by decide +kernel
theorem d_Re_nextKit_18 : decode b_Re_nextKit 18 = .ok (.aload_n 0, 1) := by decide +kernel
theorem d_Re_nextKit_19 : decode b_Re_nextKit 19 = .ok (.getfield 19, 3) := by decide +kernel
theorem d_Re_nextKit_22 : decode b_Re_nextKit 22 = .ok (.aload_n 0, 1) := by decide +kernel
theorem d_Re_nextKit_23 : decode b_Re_nextKit 23 = .ok (.getfield 9, 3) := by decide +kernel
theorem d_Re_nextKit_26 : decode b_Re_nextKit 26 = .ok (.arraylength, 1) := by decide +kernel
theorem d_Re_nextKit_27 : decode b_Re_nextKit 27 = .ok (.if_icmp .ge 15, 3) := by decide +kernel
theorem d_Re_nextKit_30 : decode b_Re_nextKit 30 = .ok (.aload_n 0, 1) := by decide +kernel
theorem d_Re_nextKit_31 : decode b_Re_nextKit 31 = .ok (.getfield 9, 3) := by decide +kernel
theorem d_Re_nextKit_34 : decode b_Re_nextKit 34 = .ok (.aload_n 0, 1) := by decide +kernel
theorem d_Re_nextKit_35 : decode b_Re_nextKit 35 = .ok (.getfield 19, 3) := by decide +kernel
theorem d_Re_nextKit_38 : decode b_Re_nextKit 38 = .ok (.iaload, 1) := by decide +kernel
theorem d_Re_nextKit_39 : decode b_Re_nextKit 39 = .ok (.goto 4, 3) := by decide +kernel
theorem d_Re_nextKit_42 : decode b_Re_nextKit 42 = .ok (.iconst (-1), 1) := by decide +kernel
theorem d_Re_nextKit_43 : decode b_Re_nextKit 43 = .ok (.ireturn, 1) := by decide +kernel
theorem d_Re_drop_0 : decode b_Re_drop 0 = .ok (.aload_n 0, 1) := by decide +kernel
theorem d_Re_drop_1 : decode b_Re_drop 1 = .ok (.iconst 0, 1) := by decide +kernel
theorem d_Re_drop_2 : decode b_Re_drop 2 = .ok (.putfield 15, 3) := by decide +kernel
theorem d_Re_drop_5 : decode b_Re_drop 5 = .ok (.aload_n 0, 1) := by decide +kernel
theorem d_Re_drop_6 : decode b_Re_drop 6 = .ok (.iconst 0, 1) := by decide +kernel
theorem d_Re_drop_7 : decode b_Re_drop 7 = .ok (.putfield 19, 3) := by decide +kernel
theorem d_Re_drop_10 : decode b_Re_drop 10 = .ok (.return_, 1) := by decide +kernel
theorem d_Sh_init_0 : decode b_Sh_init 0 = .ok (.aload_n 0, 1) := by decide +kernel
theorem d_Sh_init_1 : decode b_Sh_init 1 = .ok (.invokespecial 3, 3) := by decide +kernel
theorem d_Sh_init_4 : decode b_Sh_init 4 = .ok (.aload_n 0, 1) := by decide +kernel
theorem d_Sh_init_5 : decode b_Sh_init 5 = .ok (.sipush 1000, 3) := by decide +kernel
theorem d_Sh_init_8 : decode b_Sh_init 8 = .ok (.newarray .int, 2) := by decide +kernel
theorem d_Sh_init_10 : decode b_Sh_init 10 = .ok (.putfield 9, 3) := by decide +kernel
theorem d_Sh_init_13 : decode b_Sh_init 13 = .ok (.aload_n 0, 1) := by decide +kernel
theorem d_Sh_init_14 : decode b_Sh_init 14 = .ok (.sipush 1000, 3) := by decide +kernel
theorem d_Sh_init_17 : decode b_Sh_init 17 = .ok (.newarray .int, 2) := by decide +kernel
theorem d_Sh_init_19 : decode b_Sh_init 19 = .ok (.putfield 15, 3) := by decide +kernel
theorem d_Sh_init_22 : decode b_Sh_init 22 = .ok (.aload_n 0, 1) := by decide +kernel
theorem d_Sh_init_23 : decode b_Sh_init 23 = .ok (.sipush 1000, 3) := by decide +kernel
theorem d_Sh_init_26 : decode b_Sh_init 26 = .ok (.newarray .int, 2) := by decide +kernel
theorem d_Sh_init_28 : decode b_Sh_init 28 = .ok (.putfield 18, 3) := by decide +kernel
theorem d_Sh_init_31 : decode b_Sh_init 31 = .ok (.aload_n 0, 1) := by decide +kernel
theorem d_Sh_init_32 : decode b_Sh_init 32 = .ok (.sipush 1000, 3) := by decide +kernel
theorem d_Sh_init_35 : decode b_Sh_init 35 = .ok (.newarray .int, 2) := by decide +kernel
theorem d_Sh_init_37 : decode b_Sh_init 37 = .ok (.putfield 21, 3) := by decide +kernel
theorem d_Sh_init_40 : decode b_Sh_init 40 = .ok (.return_, 1) := by decide +kernel
theorem d_Sh_hasAny_0 : decode b_Sh_hasAny 0 = .ok (.iconst 0, 1) := by decide +kernel
theorem d_Sh_hasAny_1 : decode b_Sh_hasAny 1 = .ok (.istore_n 3, 1) := by decide +kernel
theorem d_Sh_hasAny_2 : decode b_Sh_hasAny 2 = .ok (.iload_n 3, 1) := by decide +kernel
theorem d_Sh_hasAny_3 : decode b_Sh_hasAny 3 = .ok (.iload_n 2, 1) := by decide +kernel
theorem d_Sh_hasAny_4 : decode b_Sh_hasAny 4 = .ok (.if_icmp .ge 31, 3) := by decide +kernel
theorem d_Sh_hasAny_7 : decode b_Sh_hasAny 7 = .ok (.iload_n 1, 1) := by decide +kernel
theorem d_Sh_hasAny_8 : decode b_Sh_hasAny 8 = .ok (.iload_n 3, 1) := by decide +kernel
theorem d_Sh_hasAny_9 : decode b_Sh_hasAny 9 = .ok (.iadd, 1) := by decide +kernel
theorem d_Sh_hasAny_10 : decode b_Sh_hasAny 10 = .ok (.invokestatic 24, 3) := by decide +kernel
theorem d_Sh_hasAny_13 : decode b_Sh_hasAny 13 = .ok (.ifCond .eq 16, 3) := by decide +kernel
theorem d_Sh_hasAny_16 : decode b_Sh_hasAny 16 = .ok (.aload_n 0, 1) := by decide +kernel
theorem d_Sh_hasAny_17 : decode b_Sh_hasAny 17 = .ok (.getfield 18, 3) := by decide +kernel
theorem d_Sh_hasAny_20 : decode b_Sh_hasAny 20 = .ok (.iload_n 1, 1) := by decide +kernel
theorem d_Sh_hasAny_21 : decode b_Sh_hasAny 21 = .ok (.iload_n 3, 1) := by decide +kernel
theorem d_Sh_hasAny_22 : decode b_Sh_hasAny 22 = .ok (.iadd, 1) := by decide +kernel
theorem d_Sh_hasAny_23 : decode b_Sh_hasAny 23 = .ok (.iaload, 1) := by decide +kernel
theorem d_Sh_hasAny_24 : decode b_Sh_hasAny 24 = .ok (.ifCond .eq 5, 3) := by decide +kernel
theorem d_Sh_hasAny_27 : decode b_Sh_hasAny 27 = .ok (.iconst 1, 1) := by decide +kernel
theorem d_Sh_hasAny_28 : decode b_Sh_hasAny 28 = .ok (.ireturn, 1) := by decide +kernel
theorem d_Sh_hasAny_29 : decode b_Sh_hasAny 29 = .ok (.iinc 3 1, 3) := by decide +kernel
theorem d_Sh_hasAny_32 : decode b_Sh_hasAny 32 = .ok (.goto (-30), 3) := by decide +kernel
theorem d_Sh_hasAny_35 : decode b_Sh_hasAny 35 = .ok (.iconst 0, 1) := by decide +kernel
theorem d_Sh_hasAny_36 : decode b_Sh_hasAny 36 = .ok (.ireturn, 1) := by decide +kernel
theorem d_Sh_put_0 : decode b_Sh_put 0 = .ok (.iconst 0, 1) := by decide +kernel
theorem d_Sh_put_1 : decode b_Sh_put 1 = .ok (.istore 5, 2) := by decide +kernel
theorem d_Sh_put_3 : decode b_Sh_put 3 = .ok (.iload 5, 2) := by decide +kernel
theorem d_Sh_put_5 : decode b_Sh_put 5 = .ok (.iload 4, 2) := by decide +kernel
theorem d_Sh_put_7 : decode b_Sh_put 7 = .ok (.if_icmp .ge 49, 3) := by decide +kernel
theorem d_Sh_put_10 : decode b_Sh_put 10 = .ok (.iload_n 3, 1) := by decide +kernel
theorem d_Sh_put_11 : decode b_Sh_put 11 = .ok (.iload 5, 2) := by decide +kernel
theorem d_Sh_put_13 : decode b_Sh_put 13 = .ok (.iadd, 1) := by decide +kernel
theorem d_Sh_put_14 : decode b_Sh_put 14 = .ok (.invokestatic 24, 3) := by decide +kernel
theorem d_Sh_put_17 : decode b_Sh_put 17 = .ok (.ifCond .eq 33, 3) := by decide +kernel
theorem d_Sh_put_20 : decode b_Sh_put 20 = .ok (.aload_n 0, 1) := by decide +kernel
theorem d_Sh_put_21 : decode b_Sh_put 21 = .ok (.getfield 9, 3) := by decide +kernel
theorem d_Sh_put_24 : decode b_Sh_put 24 = .ok (.iload_n 3, 1) := by decide +kernel
theorem d_Sh_put_25 : decode b_Sh_put 25 = .ok (.iload 5, 2) := by decide +kernel
theorem d_Sh_put_27 : decode b_Sh_put 27 = .ok (.iadd, 1) := by decide +kernel
theorem d_Sh_put_28 : decode b_Sh_put 28 = .ok (.iload_n 1, 1) := by decide +kernel
theorem d_Sh_put_29 : decode b_Sh_put 29 = .ok (.iastore, 1) := by decide +kernel
theorem d_Sh_put_30 : decode b_Sh_put 30 = .ok (.aload_n 0, 1) := by decide +kernel
theorem d_Sh_put_31 : decode b_Sh_put 31 = .ok (.getfield 15, 3) := by decide +kernel
theorem d_Sh_put_34 : decode b_Sh_put 34 = .ok (.iload_n 3, 1) := by decide +kernel
theorem d_Sh_put_35 : decode b_Sh_put 35 = .ok (.iload 5, 2) := by decide +kernel
theorem d_Sh_put_37 : decode b_Sh_put 37 = .ok (.iadd, 1) := by decide +kernel
theorem d_Sh_put_38 : decode b_Sh_put 38 = .ok (.iload_n 2, 1) := by decide +kernel
theorem d_Sh_put_39 : decode b_Sh_put 39 = .ok (.iastore, 1) := by decide +kernel
theorem d_Sh_put_40 : decode b_Sh_put 40 = .ok (.aload_n 0, 1) := by decide +kernel
theorem d_Sh_put_41 : decode b_Sh_put 41 = .ok (.getfield 18, 3) := by decide +kernel
theorem d_Sh_put_44 : decode b_Sh_put 44 = .ok (.iload_n 3, 1) := by decide +kernel
theorem d_Sh_put_45 : decode b_Sh_put 45 = .ok (.iload 5, 2) := by decide +kernel
theorem d_Sh_put_47 : decode b_Sh_put 47 = .ok (.iadd, 1) := by decide +kernel
theorem d_Sh_put_48 : decode b_Sh_put 48 = .ok (.iconst 1, 1) := by decide +kernel
theorem d_Sh_put_49 : decode b_Sh_put 49 = .ok (.iastore, 1) := by decide +kernel
theorem d_Sh_put_50 : decode b_Sh_put 50 = .ok (.iinc 5 1, 3) := by decide +kernel
theorem d_Sh_put_53 : decode b_Sh_put 53 = .ok (.goto (-50), 3) := by decide +kernel
theorem d_Sh_put_56 : decode b_Sh_put 56 = .ok (.return_, 1) := by decide +kernel
theorem d_Sh_tally_0 : decode b_Sh_tally 0 = .ok (.iconst 0, 1) := by decide +kernel
theorem d_Sh_tally_1 : decode b_Sh_tally 1 = .ok (.istore_n 3, 1) := by decide +kernel
theorem d_Sh_tally_2 : decode b_Sh_tally 2 = .ok (.iconst 0, 1) := by decide +kernel
theorem d_Sh_tally_3 : decode b_Sh_tally 3 = .ok (.istore 4, 2) := by decide +kernel
theorem d_Sh_tally_5 : decode b_Sh_tally 5 = .ok (.iload 4, 2) := by decide +kernel
theorem d_Sh_tally_7 : decode b_Sh_tally 7 = .ok (.sipush 1000, 3) := by decide +kernel
theorem d_Sh_tally_10 : decode b_Sh_tally 10 = .ok (.if_icmp .ge 34, 3) := by decide +kernel
theorem d_Sh_tally_13 : decode b_Sh_tally 13 = .ok (.aload_n 0, 1) := by decide +kernel
theorem d_Sh_tally_14 : decode b_Sh_tally 14 = .ok (.getfield 18, 3) := by decide +kernel
theorem d_Sh_tally_17 : decode b_Sh_tally 17 = .ok (.iload 4, 2) := by decide +kernel
theorem d_Sh_tally_19 : decode b_Sh_tally 19 = .ok (.iaload, 1) := by decide +kernel
theorem d_Sh_tally_20 : decode b_Sh_tally 20 = .ok (.iload_n 2, 1) := by decide +kernel
theorem d_Sh_tally_21 : decode b_Sh_tally 21 = .ok (.if_icmp .ne 17, 3) := by decide +kernel
theorem d_Sh_tally_24 : decode b_Sh_tally 24 = .ok (.aload_n 0, 1) := by decide +kernel
theorem d_Sh_tally_25 : decode b_Sh_tally 25 = .ok (.getfield 9, 3) := by decide +kernel
theorem d_Sh_tally_28 : decode b_Sh_tally 28 = .ok (.iload 4, 2) := by decide +kernel
theorem d_Sh_tally_30 : decode b_Sh_tally 30 = .ok (.iaload, 1) := by decide +kernel
theorem d_Sh_tally_31 : decode b_Sh_tally 31 = .ok (.iload_n 1, 1) := by decide +kernel
theorem d_Sh_tally_32 : decode b_Sh_tally 32 = .ok (.if_icmp .ne 6, 3) := by decide +kernel
theorem d_Sh_tally_35 : decode b_Sh_tally 35 = .ok (.iinc 3 1, 3) := by decide +kernel
theorem d_Sh_tally_38 : decode b_Sh_tally 38 = .ok (.iinc 4 1, 3) := by decide +kernel
theorem d_Sh_tally_41 : decode b_Sh_tally 41 = .ok (.goto (-36), 3) := by decide +kernel
theorem d_Sh_tally_44 : decode b_Sh_tally 44 = .ok (.iload_n 3, 1) := by decide +kernel
theorem d_Sh_tally_45 : decode b_Sh_tally 45 = .ok (.ireturn, 1) := by decide +kernel
theorem d_Sh_tallyFree_0 : decode b_Sh_tallyFree 0 = .ok (.iconst 0, 1) := by decide +kernel
theorem d_Sh_tallyFree_1 : decode b_Sh_tallyFree 1 = .ok (.istore_n 3, 1) := by decide +kernel
theorem d_Sh_tallyFree_2 : decode b_Sh_tallyFree 2 = .ok (.iconst 0, 1) := by decide +kernel
theorem d_Sh_tallyFree_3 : decode b_Sh_tallyFree 3 = .ok (.istore 4, 2) := by decide +kernel
theorem d_Sh_tallyFree_5 : decode b_Sh_tallyFree 5 = .ok (.iload 4, 2) := by decide +kernel
theorem d_Sh_tallyFree_7 : decode b_Sh_tallyFree 7 = .ok (.sipush 1000, 3) := by decide +kernel
theorem d_Sh_tallyFree_10 : decode b_Sh_tallyFree 10 = .ok (.if_icmp .ge 23, 3) := by decide +kernel
theorem d_Sh_tallyFree_13 : decode b_Sh_tallyFree 13 = .ok (.aload_n 0, 1) := by decide +kernel
theorem d_Sh_tallyFree_14 : decode b_Sh_tallyFree 14 = .ok (.iload 4, 2) := by decide +kernel
theorem d_Sh_tallyFree_16 : decode b_Sh_tallyFree 16 = .ok (.iload_n 1, 1) := by decide +kernel
theorem d_Sh_tallyFree_17 : decode b_Sh_tallyFree 17 = .ok (.iload_n 2, 1) := by decide +kernel
theorem d_Sh_tallyFree_18 : decode b_Sh_tallyFree 18 = .ok (.invokevirtual 28, 3) := by decide +kernel
theorem d_Sh_tallyFree_21 : decode b_Sh_tallyFree 21 = .ok (.ifCond .eq 6, 3) := by decide +kernel
theorem d_Sh_tallyFree_24 : decode b_Sh_tallyFree 24 = .ok (.iinc 3 1, 3) := by decide +kernel
theorem d_Sh_tallyFree_27 : decode b_Sh_tallyFree 27 = .ok (.iinc 4 1, 3) := by decide +kernel
theorem d_Sh_tallyFree_30 : decode b_Sh_tallyFree 30 = .ok (.goto (-25), 3) := by decide +kernel
theorem d_Sh_tallyFree_33 : decode b_Sh_tallyFree 33 = .ok (.iload_n 3, 1) := by decide +kernel
theorem d_Sh_tallyFree_34 : decode b_Sh_tallyFree 34 = .ok (.ireturn, 1) := by decide +kernel
theorem d_Sh_leastFree_0 : decode b_Sh_leastFree 0 = .ok (.iload_n 3, 1) := by decide +kernel
theorem d_Sh_leastFree_1 : decode b_Sh_leastFree 1 = .ok (.iconst 0, 1) := by decide +kernel
theorem d_Sh_leastFree_2 : decode b_Sh_leastFree 2 = .ok (.invokestatic 32, 3) := by decide +kernel
theorem d_Sh_leastFree_5 : decode b_Sh_leastFree 5 = .ok (.istore 4, 2) := by decide +kernel
theorem d_Sh_leastFree_7 : decode b_Sh_leastFree 7 = .ok (.iload 4, 2) := by decide +kernel
theorem d_Sh_leastFree_9 : decode b_Sh_leastFree 9 = .ok (.sipush 1000, 3) := by decide +kernel
theorem d_Sh_leastFree_12 : decode b_Sh_leastFree 12 = .ok (.if_icmp .ge 23, 3) := by decide +kernel
theorem d_Sh_leastFree_15 : decode b_Sh_leastFree 15 = .ok (.aload_n 0, 1) := by decide +kernel
theorem d_Sh_leastFree_16 : decode b_Sh_leastFree 16 = .ok (.iload 4, 2) := by decide +kernel
theorem d_Sh_leastFree_18 : decode b_Sh_leastFree 18 = .ok (.iload_n 1, 1) := by decide +kernel
theorem d_Sh_leastFree_19 : decode b_Sh_leastFree 19 = .ok (.iload_n 2, 1) := by decide +kernel
theorem d_Sh_leastFree_20 : decode b_Sh_leastFree 20 = .ok (.invokevirtual 28, 3) := by decide +kernel
theorem d_Sh_leastFree_23 : decode b_Sh_leastFree 23 = .ok (.ifCond .eq 6, 3) := by decide +kernel
theorem d_Sh_leastFree_26 : decode b_Sh_leastFree 26 = .ok (.iload 4, 2) := by decide +kernel
theorem d_Sh_leastFree_28 : decode b_Sh_leastFree 28 = .ok (.ireturn, 1) := by decide +kernel
theorem d_Sh_leastFree_29 : decode b_Sh_leastFree 29 = .ok (.iinc 4 1, 3) := by decide +kernel
theorem d_Sh_leastFree_32 : decode b_Sh_leastFree 32 = .ok (.goto (-25), 3) := by decide +kernel
theorem d_Sh_leastFree_35 : decode b_Sh_leastFree 35 = .ok (.iconst (-1), 1) := by decide +kernel
theorem d_Sh_leastFree_36 : decode b_Sh_leastFree 36 = .ok (.ireturn, 1) := by decide +kernel
theorem d_Sh_use_0 : decode b_Sh_use 0 = .ok (.iload_n 1, 1) := by decide +kernel
theorem d_Sh_use_1 : decode b_Sh_use 1 = .ok (.invokestatic 24, 3) := by decide +kernel
theorem d_Sh_use_4 : decode b_Sh_use 4 = .ok (.ifCond .eq 17, 3) := by decide +kernel
theorem d_Sh_use_7 : decode b_Sh_use 7 = .ok (.aload_n 0, 1) := by decide +kernel
theorem d_Sh_use_8 : decode b_Sh_use 8 = .ok (.getfield 18, 3) := by decide +kernel
theorem d_Sh_use_11 : decode b_Sh_use 11 = .ok (.iload_n 1, 1) := by decide +kernel
theorem d_Sh_use_12 : decode b_Sh_use 12 = .ok (.iconst 3, 1) := by decide +kernel
theorem d_Sh_use_13 : decode b_Sh_use 13 = .ok (.iastore, 1) := by decide +kernel
theorem d_Sh_use_14 : decode b_Sh_use 14 = .ok (.aload_n 0, 1) := by decide +kernel
theorem d_Sh_use_15 : decode b_Sh_use 15 = .ok (.getfield 21, 3) := by decide +kernel
theorem d_Sh_use_18 : decode b_Sh_use 18 = .ok (.iload_n 1, 1) := by decide +kernel
theorem d_Sh_use_19 : decode b_Sh_use 19 = .ok (.iload_n 2, 1) := by decide +kernel
theorem d_Sh_use_20 : decode b_Sh_use 20 = .ok (.iastore, 1) := by decide +kernel
theorem d_Sh_use_21 : decode b_Sh_use 21 = .ok (.return_, 1) := by decide +kernel
theorem d_Sh_markAll_0 : decode b_Sh_markAll 0 = .ok (.iconst 0, 1) := by decide +kernel
theorem d_Sh_markAll_1 : decode b_Sh_markAll 1 = .ok (.istore_n 3, 1) := by decide +kernel
theorem d_Sh_markAll_2 : decode b_Sh_markAll 2 = .ok (.iload_n 3, 1) := by decide +kernel
theorem d_Sh_markAll_3 : decode b_Sh_markAll 3 = .ok (.iload_n 2, 1) := by decide +kernel
theorem d_Sh_markAll_4 : decode b_Sh_markAll 4 = .ok (.if_icmp .ge 33, 3) := by decide +kernel
theorem d_Sh_markAll_7 : decode b_Sh_markAll 7 = .ok (.iload_n 3, 1) := by decide +kernel
theorem d_Sh_markAll_8 : decode b_Sh_markAll 8 = .ok (.aload_n 1, 1) := by decide +kernel
theorem d_Sh_markAll_9 : decode b_Sh_markAll 9 = .ok (.arraylength, 1) := by decide +kernel
theorem d_Sh_markAll_10 : decode b_Sh_markAll 10 = .ok (.if_icmp .ge 27, 3) := by decide +kernel
theorem d_Sh_markAll_13 : decode b_Sh_markAll 13 = .ok (.aload_n 1, 1) := by decide +kernel
theorem d_Sh_markAll_14 : decode b_Sh_markAll 14 = .ok (.iload_n 3, 1) := by decide +kernel
theorem d_Sh_markAll_15 : decode b_Sh_markAll 15 = .ok (.iaload, 1) := by decide +kernel
theorem d_Sh_markAll_16 : decode b_Sh_markAll 16 = .ok (.invokestatic 24, 3) := by decide +kernel
theorem d_Sh_markAll_19 : decode b_Sh_markAll 19 = .ok (.ifCond .eq 12, 3) := by decide +kernel
theorem d_Sh_markAll_22 : decode b_Sh_markAll 22 = .ok (.aload_n 0, 1) := by decide +kernel
theorem d_Sh_markAll_23 : decode b_Sh_markAll 23 = .ok (.getfield 18, 3) := by decide +kernel
theorem d_Sh_markAll_26 : decode b_Sh_markAll 26 = .ok (.aload_n 1, 1) := by decide +kernel
theorem d_Sh_markAll_27 : decode b_Sh_markAll 27 = .ok (.iload_n 3, 1) := by decide +kernel
theorem d_Sh_markAll_28 : decode b_Sh_markAll 28 = .ok (.iaload, 1) := by decide +kernel
theorem d_Sh_markAll_29 : decode b_Sh_markAll 29 = .ok (.iconst 2, 1) := by decide +kernel
theorem d_Sh_markAll_30 : decode b_Sh_markAll 30 = .ok (.iastore, 1) := by decide +kernel
theorem d_Sh_markAll_31 : decode b_Sh_markAll 31 = .ok (.iinc 3 1, 3) := by decide +kernel
theorem d_Sh_markAll_34 : decode b_Sh_markAll 34 = .ok (.goto (-32), 3) := by decide +kernel
theorem d_Sh_markAll_37 : decode b_Sh_markAll 37 = .ok (.return_, 1) := by decide +kernel
theorem d_Sh_freeMarked_0 : decode b_Sh_freeMarked 0 = .ok (.iconst 0, 1) := by decide +kernel
theorem d_Sh_freeMarked_1 : decode b_Sh_freeMarked 1 = .ok (.istore_n 2, 1) := by decide +kernel
theorem d_Sh_freeMarked_2 : decode b_Sh_freeMarked 2 = .ok (.iload_n 2, 1) := by decide +kernel
theorem d_Sh_freeMarked_3 : decode b_Sh_freeMarked 3 = .ok (.sipush 1000, 3) := by decide +kernel
theorem d_Sh_freeMarked_6 : decode b_Sh_freeMarked 6 = .ok (.if_icmp .ge 36, 3) := by decide +kernel
theorem d_Sh_freeMarked_9 : decode b_Sh_freeMarked 9 = .ok (.aload_n 0, 1) := by decide +kernel
theorem d_Sh_freeMarked_10 : decode b_Sh_freeMarked 10 = .ok (.getfield 18, 3) := by decide +kernel
theorem d_Sh_freeMarked_13 : decode b_Sh_freeMarked 13 = .ok (.iload_n 2, 1) := by decide +kernel
theorem d_Sh_freeMarked_14 : decode b_Sh_freeMarked 14 = .ok (.iaload, 1) := by decide +kernel
theorem d_Sh_freeMarked_15 : decode b_Sh_freeMarked 15 = .ok (.iconst 2, 1) := by decide +kernel
theorem d_Sh_freeMarked_16 : decode b_Sh_freeMarked 16 = .ok (.if_icmp .ne 20, 3) := by decide +kernel
theorem d_Sh_freeMarked_19 : decode b_Sh_freeMarked 19 = .ok (.aload_n 0, 1) := by decide +kernel
theorem d_Sh_freeMarked_20 : decode b_Sh_freeMarked 20 = .ok (.getfield 9, 3) := by decide +kernel
theorem d_Sh_freeMarked_23 : decode b_Sh_freeMarked 23 = .ok (.iload_n 2, 1) := by decide +kernel
theorem d_Sh_freeMarked_24 : decode b_Sh_freeMarked 24 = .ok (.iaload, 1) := by decide +kernel
theorem d_Sh_freeMarked_25 : decode b_Sh_freeMarked 25 = .ok (.iload_n 1, 1) := by decide +kernel
theorem d_Sh_freeMarked_26 : decode b_Sh_freeMarked 26 = .ok (.if_icmp .ne 10, 3) := by decide +kernel
theorem d_Sh_freeMarked_29 : decode b_Sh_freeMarked 29 = .ok (.aload_n 0, 1) := by decide +kernel
theorem d_Sh_freeMarked_30 : decode b_Sh_freeMarked 30 = .ok (.getfield 18, 3) := by decide +kernel
theorem d_Sh_freeMarked_33 : decode b_Sh_freeMarked 33 = .ok (.iload_n 2, 1) := by decide +kernel
theorem d_Sh_freeMarked_34 : decode b_Sh_freeMarked 34 = .ok (.iconst 1, 1) := by decide +kernel
theorem d_Sh_freeMarked_35 : decode b_Sh_freeMarked 35 = .ok (.iastore, 1) := by decide +kernel
theorem d_Sh_freeMarked_36 : decode b_Sh_freeMarked 36 = .ok (.iinc 2 1, 3) := by decide +kernel
theorem d_Sh_freeMarked_39 : decode b_Sh_freeMarked 39 = .ok (.goto (-37), 3) := by decide +kernel
theorem d_Sh_freeMarked_42 : decode b_Sh_freeMarked 42 = .ok (.return_, 1) := by decide +kernel
theorem d_Sh_armOf_0 : decode b_Sh_armOf 0 = .ok (.iload_n 1, 1) := by decide +kernel
theorem d_Sh_armOf_1 : decode b_Sh_armOf 1 = .ok (.invokestatic 24, 3) := by decide +kernel
theorem d_Sh_armOf_4 : decode b_Sh_armOf 4 = .ok (.ifCond .eq 12, 3) := by decide +kernel
theorem d_Sh_armOf_7 : decode b_Sh_armOf 7 = .ok (.aload_n 0, 1) := by decide +kernel
theorem d_Sh_armOf_8 : decode b_Sh_armOf 8 = .ok (.getfield 15, 3) := by decide +kernel
theorem d_Sh_armOf_11 : decode b_Sh_armOf 11 = .ok (.iload_n 1, 1) := by decide +kernel
theorem d_Sh_armOf_12 : decode b_Sh_armOf 12 = .ok (.iaload, 1) := by decide +kernel
theorem d_Sh_armOf_13 : decode b_Sh_armOf 13 = .ok (.goto 4, 3) := by decide +kernel
theorem d_Sh_armOf_16 : decode b_Sh_armOf 16 = .ok (.iconst (-1), 1) := by decide +kernel
theorem d_Sh_armOf_17 : decode b_Sh_armOf 17 = .ok (.ireturn, 1) := by decide +kernel
theorem d_Sh_userOf_0 : decode b_Sh_userOf 0 = .ok (.iload_n 1, 1) := by decide +kernel
theorem d_Sh_userOf_1 : decode b_Sh_userOf 1 = .ok (.invokestatic 24, 3) := by decide +kernel
theorem d_Sh_userOf_4 : decode b_Sh_userOf 4 = .ok (.ifCond .eq 32, 3) := by decide +kernel
theorem d_Sh_userOf_7 : decode b_Sh_userOf 7 = .ok (.aload_n 0, 1) := by decide +kernel
theorem d_Sh_userOf_8 : decode b_Sh_userOf 8 = .ok (.getfield 18, 3) := by decide +kernel
theorem d_Sh_userOf_11 : decode b_Sh_userOf 11 = .ok (.iload_n 1, 1) := by decide +kernel
theorem d_Sh_userOf_12 : decode b_Sh_userOf 12 = .ok (.iaload, 1) := by decide +kernel
theorem d_Sh_userOf_13 : decode b_Sh_userOf 13 = .ok (.iconst 3, 1) := by decide +kernel
theorem d_Sh_userOf_14 : decode b_Sh_userOf 14 = .ok (.if_icmp .ne 22, 3) := by decide +kernel
theorem d_Sh_userOf_17 : decode b_Sh_userOf 17 = .ok (.aload_n 0, 1) := by decide +kernel
theorem d_Sh_userOf_18 : decode b_Sh_userOf 18 = .ok (.getfield 9, 3) := by decide +kernel
theorem d_Sh_userOf_21 : decode b_Sh_userOf 21 = .ok (.iload_n 1, 1) := by decide +kernel
theorem d_Sh_userOf_22 : decode b_Sh_userOf 22 = .ok (.iaload, 1) := by decide +kernel
theorem d_Sh_userOf_23 : decode b_Sh_userOf 23 = .ok (.bipush 100, 2) := by decide +kernel
theorem d_Sh_userOf_25 : decode b_Sh_userOf 25 = .ok (.imul, 1) := by decide +kernel
theorem d_Sh_userOf_26 : decode b_Sh_userOf 26 = .ok (.aload_n 0, 1) := by decide +kernel
theorem d_Sh_userOf_27 : decode b_Sh_userOf 27 = .ok (.getfield 21, 3) := by decide +kernel
theorem d_Sh_userOf_30 : decode b_Sh_userOf 30 = .ok (.iload_n 1, 1) := by decide +kernel
theorem d_Sh_userOf_31 : decode b_Sh_userOf 31 = .ok (.iaload, 1) := by decide +kernel
theorem d_Sh_userOf_32 : decode b_Sh_userOf 32 = .ok (.iadd, 1) := by decide +kernel
theorem d_Sh_userOf_33 : decode b_Sh_userOf 33 = .ok (.goto 4, 3) := by decide +kernel
theorem d_Sh_userOf_36 : decode b_Sh_userOf 36 = .ok (.iconst (-1), 1) := by decide +kernel
theorem d_Sh_userOf_37 : decode b_Sh_userOf 37 = .ok (.ireturn, 1) := by decide +kernel
theorem d_Sh_isFree_0 : decode b_Sh_isFree 0 = .ok (.iload_n 1, 1) := by decide +kernel
theorem d_Sh_isFree_1 : decode b_Sh_isFree 1 = .ok (.invokestatic 24, 3) := by decide +kernel
theorem d_Sh_isFree_4 : decode b_Sh_isFree 4 = .ok (.ifCond .eq 37, 3) := by decide +kernel
theorem d_Sh_isFree_7 : decode b_Sh_isFree 7 = .ok (.aload_n 0, 1) := by decide +kernel
theorem d_Sh_isFree_8 : decode b_Sh_isFree 8 = .ok (.getfield 18, 3) := by decide +kernel
theorem d_Sh_isFree_11 : decode b_Sh_isFree 11 = .ok (.iload_n 1, 1) := by decide +kernel
theorem d_Sh_isFree_12 : decode b_Sh_isFree 12 = .ok (.iaload, 1) := by decide +kernel
theorem d_Sh_isFree_13 : decode b_Sh_isFree 13 = .ok (.iconst 1, 1) := by decide +kernel
theorem d_Sh_isFree_14 : decode b_Sh_isFree 14 = .ok (.if_icmp .ne 27, 3) := by decide +kernel
theorem d_Sh_isFree_17 : decode b_Sh_isFree 17 = .ok (.aload_n 0, 1) := by decide +kernel
theorem d_Sh_isFree_18 : decode b_Sh_isFree 18 = .ok (.getfield 9, 3) := by decide +kernel
theorem d_Sh_isFree_21 : decode b_Sh_isFree 21 = .ok (.iload_n 1, 1) := by decide +kernel
theorem d_Sh_isFree_22 : decode b_Sh_isFree 22 = .ok (.iaload, 1) := by decide +kernel
theorem d_Sh_isFree_23 : decode b_Sh_isFree 23 = .ok (.iload_n 2, 1) := by decide +kernel
theorem d_Sh_isFree_24 : decode b_Sh_isFree 24 = .ok (.if_icmp .ne 17, 3) := by decide +kernel
theorem d_Sh_isFree_27 : decode b_Sh_isFree 27 = .ok (.aload_n 0, 1) := by decide +kernel
theorem d_Sh_isFree_28 : decode b_Sh_isFree 28 = .ok (.getfield 15, 3) := by decide +kernel
theorem d_Sh_isFree_31 : decode b_Sh_isFree 31 = .ok (.iload_n 1, 1) := by decide +kernel
theorem d_Sh_isFree_32 : decode b_Sh_isFree 32 = .ok (.iaload, 1) := by decide +kernel
theorem d_Sh_isFree_33 : decode b_Sh_isFree 33 = .ok (.iload_n 3, 1) := by decide +kernel
theorem d_Sh_isFree_34 : decode b_Sh_isFree 34 = .ok (.if_icmp .ne 7, 3) := by decide +kernel
theorem d_Sh_isFree_37 : decode b_Sh_isFree 37 = .ok (.iconst 1, 1) := by decide +kernel
theorem d_Sh_isFree_38 : decode b_Sh_isFree 38 = .ok (.goto 4, 3) := by decide +kernel
theorem d_Sh_isFree_41 : decode b_Sh_isFree 41 = .ok (.iconst 0, 1) := by decide +kernel
theorem d_Sh_isFree_42 : decode b_Sh_isFree 42 = .ok (.ireturn, 1) := by decide +kernel
theorem d_Sh_isKit_0 : decode b_Sh_isKit 0 = .ok (.iload_n 0, 1) := by decide +kernel
theorem d_Sh_isKit_1 : decode b_Sh_isKit 1 = .ok (.ifCond .lt 14, 3) := by decide +kernel
theorem d_Sh_isKit_4 : decode b_Sh_isKit 4 = .ok (.iload_n 0, 1) := by decide +kernel
theorem d_Sh_isKit_5 : decode b_Sh_isKit 5 = .ok (.sipush 1000, 3) := by decide +kernel
theorem d_Sh_isKit_8 : decode b_Sh_isKit 8 = .ok (.if_icmp .ge 7, 3) := by decide +kernel
theorem d_Sh_isKit_11 : decode b_Sh_isKit 11 = .ok (.iconst 1, 1) := by decide +kernel
theorem d_Sh_isKit_12 : decode b_Sh_isKit 12 = .ok (.goto 4, 3) := by decide +kernel
theorem d_Sh_isKit_15 : decode b_Sh_isKit 15 = .ok (.iconst 0, 1) := by decide +kernel
theorem d_Sh_isKit_16 : decode b_Sh_isKit 16 = .ok (.ireturn, 1) := by decide +kernel
theorem d_Si_init_0 : decode b_Si_init 0 = .ok (.aload_n 0, 1) := by decide +kernel
theorem d_Si_init_1 : decode b_Si_init 1 = .ok (.invokespecial 3, 3) := by decide +kernel
theorem d_Si_init_4 : decode b_Si_init 4 = .ok (.aload_n 0, 1) := by decide +kernel
theorem d_Si_init_5 : decode b_Si_init 5 = .ok (.bipush 100, 2) := by decide +kernel
theorem d_Si_init_7 : decode b_Si_init 7 = .ok (.newarray .int, 2) := by decide +kernel
theorem d_Si_init_9 : decode b_Si_init 9 = .ok (.putfield 9, 3) := by decide +kernel
theorem d_Si_init_12 : decode b_Si_init 12 = .ok (.aload_n 0, 1) := by decide +kernel
theorem d_Si_init_13 : decode b_Si_init 13 = .ok (.bipush 100, 2) := by decide +kernel
theorem d_Si_init_15 : decode b_Si_init 15 = .ok (.newarray .int, 2) := by decide +kernel
theorem d_Si_init_17 : decode b_Si_init 17 = .ok (.putfield 15, 3) := by decide +kernel
theorem d_Si_init_20 : decode b_Si_init 20 = .ok (.aload_n 0, 1) := by decide +kernel
theorem d_Si_init_21 : decode b_Si_init 21 = .ok (.bipush 100, 2) := by decide +kernel
theorem d_Si_init_23 : decode b_Si_init 23 = .ok (.newarray .int, 2) := by decide +kernel
theorem d_Si_init_25 : decode b_Si_init 25 = .ok (.putfield 18, 3) := by decide +kernel
theorem d_Si_init_28 : decode b_Si_init 28 = .ok (.aload_n 0, 1) := by decide +kernel
theorem d_Si_init_29 : decode b_Si_init 29 = .ok (.bipush 100, 2) := by decide +kernel
theorem d_Si_init_31 : decode b_Si_init 31 = .ok (.newarray .int, 2) := by decide +kernel
theorem d_Si_init_33 : decode b_Si_init 33 = .ok (.putfield 21, 3) := by decide +kernel
theorem d_Si_init_36 : decode b_Si_init 36 = .ok (.aload_n 0, 1) := by decide +kernel
theorem d_Si_init_37 : decode b_Si_init 37 = .ok (.bipush 8, 2) := by decide +kernel
theorem d_Si_init_39 : decode b_Si_init 39 = .ok (.anewarray 24, 3) := by decide +kernel
theorem d_Si_init_42 : decode b_Si_init 42 = .ok (.putfield 26, 3) := by decide +kernel
theorem d_Si_init_45 : decode b_Si_init 45 = .ok (.iconst 0, 1) := by decide +kernel
theorem d_Si_init_46 : decode b_Si_init 46 = .ok (.istore_n 1, 1) := by decide +kernel
theorem d_Si_init_47 : decode b_Si_init 47 = .ok (.iload_n 1, 1) := by decide +kernel
theorem d_Si_init_48 : decode b_Si_init 48 = .ok (.aload_n 0, 1) := by decide +kernel
theorem d_Si_init_49 : decode b_Si_init 49 = .ok (.getfield 26, 3) := by decide +kernel
theorem d_Si_init_52 : decode b_Si_init 52 = .ok (.arraylength, 1) := by decide +kernel
theorem d_Si_init_53 : decode b_Si_init 53 = .ok (.if_icmp .ge 22, 3) := by decide +kernel
theorem d_Si_init_56 : decode b_Si_init 56 = .ok (.aload_n 0, 1) := by decide +kernel
theorem d_Si_init_57 : decode b_Si_init 57 = .ok (.getfield 26, 3) := by decide +kernel
theorem d_Si_init_60 : decode b_Si_init 60 = .ok (.iload_n 1, 1) := by decide +kernel
theorem d_Si_init_61 : decode b_Si_init 61 = .ok (.new 24, 3) := by decide +kernel
theorem d_Si_init_64 : decode b_Si_init 64 = .ok (.dup, 1) := by decide +kernel
theorem d_Si_init_65 : decode b_Si_init 65 = .ok (.invokespecial 30, 3) := by decide +kernel
theorem d_Si_init_68 : decode b_Si_init 68 = .ok (.aastore, 1) := by decide +kernel
theorem d_Si_init_69 : decode b_Si_init 69 = .ok (.iinc 1 1, 3) := by decide +kernel
theorem d_Si_init_72 : decode b_Si_init 72 = .ok (.goto (-25), 3) := by decide +kernel
theorem d_Si_init_75 : decode b_Si_init 75 = .ok (.return_, 1) := by decide +kernel
theorem d_Si_isAllotted_0 : decode b_Si_isAllotted 0 = .ok (.iload_n 1, 1) := by decide +kernel
theorem d_Si_isAllotted_1 : decode b_Si_isAllotted 1 = .ok (.invokestatic 31, 3) := by decide +kernel
theorem d_Si_isAllotted_4 : decode b_Si_isAllotted 4 = .ok (.ifCond .eq 16, 3) := by decide +kernel
theorem d_Si_isAllotted_7 : decode b_Si_isAllotted 7 = .ok (.aload_n 0, 1) := by decide +kernel
theorem d_Si_isAllotted_8 : decode b_Si_isAllotted 8 = .ok (.getfield 9, 3) := by decide +kernel
theorem d_Si_isAllotted_11 : decode b_Si_isAllotted 11 = .ok (.iload_n 1, 1) := by decide +kernel
theorem d_Si_isAllotted_12 : decode b_Si_isAllotted 12 = .ok (.iaload, 1) := by decide +kernel
theorem d_Si_isAllotted_13 : decode b_Si_isAllotted 13 = .ok (.ifCond .eq 7, 3) := by decide +kernel
theorem d_Si_isAllotted_16 : decode b_Si_isAllotted 16 = .ok (.iconst 1, 1) := by decide +kernel
theorem d_Si_isAllotted_17 : decode b_Si_isAllotted 17 = .ok (.goto 4, 3) := by decide +kernel
theorem d_Si_isAllotted_20 : decode b_Si_isAllotted 20 = .ok (.iconst 0, 1) := by decide +kernel
theorem d_Si_isAllotted_21 : decode b_Si_isAllotted 21 = .ok (.ireturn, 1) := by decide +kernel
theorem d_Si_isKnown_0 : decode b_Si_isKnown 0 = .ok (.iload_n 1, 1) := by decide +kernel
theorem d_Si_isKnown_1 : decode b_Si_isKnown 1 = .ok (.invokestatic 31, 3) := by decide +kernel
theorem d_Si_isKnown_4 : decode b_Si_isKnown 4 = .ok (.ifCond .eq 17, 3) := by decide +kernel
theorem d_Si_isKnown_7 : decode b_Si_isKnown 7 = .ok (.aload_n 0, 1) := by decide +kernel
theorem d_Si_isKnown_8 : decode b_Si_isKnown 8 = .ok (.getfield 9, 3) := by decide +kernel
theorem d_Si_isKnown_11 : decode b_Si_isKnown 11 = .ok (.iload_n 1, 1) := by decide +kernel
theorem d_Si_isKnown_12 : decode b_Si_isKnown 12 = .ok (.iaload, 1) := by decide +kernel
theorem d_Si_isKnown_13 : decode b_Si_isKnown 13 = .ok (.iconst 2, 1) := by decide +kernel
theorem d_Si_isKnown_14 : decode b_Si_isKnown 14 = .ok (.if_icmp .ne 7, 3) := by decide +kernel
theorem d_Si_isKnown_17 : decode b_Si_isKnown 17 = .ok (.iconst 1, 1) := by decide +kernel
theorem d_Si_isKnown_18 : decode b_Si_isKnown 18 = .ok (.goto 4, 3) := by decide +kernel
theorem d_Si_isKnown_21 : decode b_Si_isKnown 21 = .ok (.iconst 0, 1) := by decide +kernel
theorem d_Si_isKnown_22 : decode b_Si_isKnown 22 = .ok (.ireturn, 1) := by decide +kernel
theorem d_Si_enrol_0 : decode b_Si_enrol 0 = .ok (.iload_n 1, 1) := by decide +kernel
theorem d_Si_enrol_1 : decode b_Si_enrol 1 = .ok (.invokestatic 31, 3) := by decide +kernel
theorem d_Si_enrol_4 : decode b_Si_enrol 4 = .ok (.ifCond .eq 25, 3) := by decide +kernel
theorem d_Si_enrol_7 : decode b_Si_enrol 7 = .ok (.aload_n 0, 1) := by decide +kernel
theorem d_Si_enrol_8 : decode b_Si_enrol 8 = .ok (.getfield 9, 3) := by decide +kernel
theorem d_Si_enrol_11 : decode b_Si_enrol 11 = .ok (.iload_n 1, 1) := by decide +kernel
theorem d_Si_enrol_12 : decode b_Si_enrol 12 = .ok (.iload 4, 2) := by decide +kernel
theorem d_Si_enrol_14 : decode b_Si_enrol 14 = .ok (.iastore, 1) := by decide +kernel
theorem d_Si_enrol_15 : decode b_Si_enrol 15 = .ok (.aload_n 0, 1) := by decide +kernel
theorem d_Si_enrol_16 : decode b_Si_enrol 16 = .ok (.getfield 15, 3) := by decide +kernel
theorem d_Si_enrol_19 : decode b_Si_enrol 19 = .ok (.iload_n 1, 1) := by decide +kernel
theorem d_Si_enrol_20 : decode b_Si_enrol 20 = .ok (.iload_n 2, 1) := by decide +kernel
theorem d_Si_enrol_21 : decode b_Si_enrol 21 = .ok (.iastore, 1) := by decide +kernel
theorem d_Si_enrol_22 : decode b_Si_enrol 22 = .ok (.aload_n 0, 1) := by decide +kernel
theorem d_Si_enrol_23 : decode b_Si_enrol 23 = .ok (.getfield 18, 3) := by decide +kernel
theorem d_Si_enrol_26 : decode b_Si_enrol 26 = .ok (.iload_n 1, 1) := by decide +kernel
theorem d_Si_enrol_27 : decode b_Si_enrol 27 = .ok (.iload_n 3, 1) := by decide +kernel
theorem d_Si_enrol_28 : decode b_Si_enrol 28 = .ok (.iastore, 1) := by decide +kernel
theorem d_Si_enrol_29 : decode b_Si_enrol 29 = .ok (.return_, 1) := by decide +kernel
theorem d_Si_tell_0 : decode b_Si_tell 0 = .ok (.iload_n 1, 1) := by decide +kernel
theorem d_Si_tell_1 : decode b_Si_tell 1 = .ok (.invokestatic 31, 3) := by decide +kernel
theorem d_Si_tell_4 : decode b_Si_tell 4 = .ok (.ifCond .eq 22, 3) := by decide +kernel
theorem d_Si_tell_7 : decode b_Si_tell 7 = .ok (.aload_n 0, 1) := by decide +kernel
theorem d_Si_tell_8 : decode b_Si_tell 8 = .ok (.getfield 9, 3) := by decide +kernel
theorem d_Si_tell_11 : decode b_Si_tell 11 = .ok (.iload_n 1, 1) := by decide +kernel
theorem d_Si_tell_12 : decode b_Si_tell 12 = .ok (.iaload, 1) := by decide +kernel
theorem d_Si_tell_13 : decode b_Si_tell 13 = .ok (.iconst 1, 1) := by decide +kernel
theorem d_Si_tell_14 : decode b_Si_tell 14 = .ok (.if_icmp .ne 12, 3) := by decide +kernel
theorem d_Si_tell_17 : decode b_Si_tell 17 = .ok (.aload_n 0, 1) := by decide +kernel
theorem d_Si_tell_18 : decode b_Si_tell 18 = .ok (.getfield 9, 3) := by decide +kernel
theorem d_Si_tell_21 : decode b_Si_tell 21 = .ok (.iload_n 1, 1) := by decide +kernel
theorem d_Si_tell_22 : decode b_Si_tell 22 = .ok (.iconst 2, 1) := by decide +kernel
theorem d_Si_tell_23 : decode b_Si_tell 23 = .ok (.iastore, 1) := by decide +kernel
theorem d_Si_tell_24 : decode b_Si_tell 24 = .ok (.iconst 1, 1) := by decide +kernel
theorem d_Si_tell_25 : decode b_Si_tell 25 = .ok (.ireturn, 1) := by decide +kernel
theorem d_Si_tell_26 : decode b_Si_tell 26 = .ok (.iconst 0, 1) := by decide +kernel
theorem d_Si_tell_27 : decode b_Si_tell 27 = .ok (.ireturn, 1) := by decide +kernel
theorem d_Si_stratumOf_0 : decode b_Si_stratumOf 0 = .ok (.iload_n 1, 1) := by decide +kernel
theorem d_Si_stratumOf_1 : decode b_Si_stratumOf 1 = .ok (.invokestatic 31, 3) := by decide +kernel
theorem d_Si_stratumOf_4 : decode b_Si_stratumOf 4 = .ok (.ifCond .eq 12, 3) := by decide +kernel
theorem d_Si_stratumOf_7 : decode b_Si_stratumOf 7 = .ok (.aload_n 0, 1) := by decide +kernel
theorem d_Si_stratumOf_8 : decode b_Si_stratumOf 8 = .ok (.getfield 15, 3) := by decide +kernel
theorem d_Si_stratumOf_11 : decode b_Si_stratumOf 11 = .ok (.iload_n 1, 1) := by decide +kernel
theorem d_Si_stratumOf_12 : decode b_Si_stratumOf 12 = .ok (.iaload, 1) := by decide +kernel
theorem d_Si_stratumOf_13 : decode b_Si_stratumOf 13 = .ok (.goto 4, 3) := by decide +kernel
theorem d_Si_stratumOf_16 : decode b_Si_stratumOf 16 = .ok (.iconst 0, 1) := by decide +kernel
theorem d_Si_stratumOf_17 : decode b_Si_stratumOf 17 = .ok (.ireturn, 1) := by decide +kernel
theorem d_Si_armOf_0 : decode b_Si_armOf 0 = .ok (.iload_n 1, 1) := by decide +kernel
theorem d_Si_armOf_1 : decode b_Si_armOf 1 = .ok (.invokestatic 31, 3) := by decide +kernel
theorem d_Si_armOf_4 : decode b_Si_armOf 4 = .ok (.ifCond .eq 12, 3) := by decide +kernel
theorem d_Si_armOf_7 : decode b_Si_armOf 7 = .ok (.aload_n 0, 1) := by decide +kernel
theorem d_Si_armOf_8 : decode b_Si_armOf 8 = .ok (.getfield 18, 3) := by decide +kernel
theorem d_Si_armOf_11 : decode b_Si_armOf 11 = .ok (.iload_n 1, 1) := by decide +kernel
theorem d_Si_armOf_12 : decode b_Si_armOf 12 = .ok (.iaload, 1) := by decide +kernel
theorem d_Si_armOf_13 : decode b_Si_armOf 13 = .ok (.goto 4, 3) := by decide +kernel
theorem d_Si_armOf_16 : decode b_Si_armOf 16 = .ok (.iconst (-1), 1) := by decide +kernel
theorem d_Si_armOf_17 : decode b_Si_armOf 17 = .ok (.ireturn, 1) := by decide +kernel
theorem d_Si_addKey_0 : decode b_Si_addKey 0 = .ok (.iload_n 1, 1) := by decide +kernel
theorem d_Si_addKey_1 : decode b_Si_addKey 1 = .ok (.invokestatic 31, 3) := by decide +kernel
theorem d_Si_addKey_4 : decode b_Si_addKey 4 = .ok (.ifCond .eq 15, 3) := by decide +kernel
theorem d_Si_addKey_7 : decode b_Si_addKey 7 = .ok (.aload_n 0, 1) := by decide +kernel
theorem d_Si_addKey_8 : decode b_Si_addKey 8 = .ok (.getfield 21, 3) := by decide +kernel
theorem d_Si_addKey_11 : decode b_Si_addKey 11 = .ok (.iload_n 1, 1) := by decide +kernel
theorem d_Si_addKey_12 : decode b_Si_addKey 12 = .ok (.dup2, 1) := by decide +kernel
theorem d_Si_addKey_13 : decode b_Si_addKey 13 = .ok (.iaload, 1) := by decide +kernel
theorem d_Si_addKey_14 : decode b_Si_addKey 14 = .ok (.iconst 1, 1) := by decide +kernel
theorem d_Si_addKey_15 : decode b_Si_addKey 15 = .ok (.iload_n 2, 1) := by decide +kernel
theorem d_Si_addKey_16 : decode b_Si_addKey 16 = .ok (.ishl, 1) := by decide +kernel
theorem d_Si_addKey_17 : decode b_Si_addKey 17 = .ok (.ior, 1) := by decide +kernel
theorem d_Si_addKey_18 : decode b_Si_addKey 18 = .ok (.iastore, 1) := by decide +kernel
theorem d_Si_addKey_19 : decode b_Si_addKey 19 = .ok (.return_, 1) := by decide +kernel
theorem d_Si_keyCount_0 : decode b_Si_keyCount 0 = .ok (.iload_n 1, 1) := by decide +kernel
theorem d_Si_keyCount_1 : decode b_Si_keyCount 1 = .ok (.invokestatic 31, 3) := by decide +kernel
theorem d_Si_keyCount_4 : decode b_Si_keyCount 4 = .ok (.ifCond .eq 15, 3) := by decide +kernel
theorem d_Si_keyCount_7 : decode b_Si_keyCount 7 = .ok (.aload_n 0, 1) := by decide +kernel
theorem d_Si_keyCount_8 : decode b_Si_keyCount 8 = .ok (.getfield 21, 3) := by decide +kernel
theorem d_Si_keyCount_11 : decode b_Si_keyCount 11 = .ok (.iload_n 1, 1) := by decide +kernel
theorem d_Si_keyCount_12 : decode b_Si_keyCount 12 = .ok (.iaload, 1) := by decide +kernel
theorem d_Si_keyCount_13 : decode b_Si_keyCount 13 = .ok (.invokestatic 35, 3) := by decide +kernel
theorem d_Si_keyCount_16 : decode b_Si_keyCount 16 = .ok (.goto 4, 3) := by decide +kernel
theorem d_Si_keyCount_19 : decode b_Si_keyCount 19 = .ok (.iconst 0, 1) := by decide +kernel
theorem d_Si_keyCount_20 : decode b_Si_keyCount 20 = .ok (.ireturn, 1) := by decide +kernel
theorem d_Si_reserveFor_0 : decode b_Si_reserveFor 0 = .ok (.iload_n 1, 1) := by decide +kernel
theorem d_Si_reserveFor_1 : decode b_Si_reserveFor 1 = .ok (.ifCond .lt 21, 3) := by decide +kernel
theorem d_Si_reserveFor_4 : decode b_Si_reserveFor 4 = .ok (.iload_n 1, 1) := by decide +kernel
theorem d_Si_reserveFor_5 : decode b_Si_reserveFor 5 = .ok (.aload_n 0, 1) := by decide +kernel
theorem d_Si_reserveFor_6 : decode b_Si_reserveFor 6 = .ok (.getfield 26, 3) := by decide +kernel
theorem d_Si_reserveFor_9 : decode b_Si_reserveFor 9 = .ok (.arraylength, 1) := by decide +kernel
theorem d_Si_reserveFor_10 : decode b_Si_reserveFor 10 = .ok (.if_icmp .ge 12, 3) := by decide +kernel
theorem d_Si_reserveFor_13 : decode b_Si_reserveFor 13 = .ok (.aload_n 0, 1) := by decide +kernel
theorem d_Si_reserveFor_14 : decode b_Si_reserveFor 14 = .ok (.getfield 26, 3) := by decide +kernel
theorem d_Si_reserveFor_17 : decode b_Si_reserveFor 17 = .ok (.iload_n 1, 1) := by decide +kernel
theorem d_Si_reserveFor_18 : decode b_Si_reserveFor 18 = .ok (.aaload, 1) := by decide +kernel
theorem d_Si_reserveFor_19 : decode b_Si_reserveFor 19 = .ok (.ifnonnull 11, 3) := by decide +kernel
theorem d_Si_reserveFor_22 : decode b_Si_reserveFor 22 = .ok (.new 41, 3) := by decide +kernel
theorem d_Si_reserveFor_25 : decode b_Si_reserveFor 25 = .ok (.dup, 1) := by decide +kernel
theorem d_Si_reserveFor_26 : decode b_Si_reserveFor 26 = .ok (.invokespecial 43, 3) := by decide +kernel
theorem d_Si_reserveFor_29 : decode b_Si_reserveFor 29 = .ok (.athrow, 1) := by decide +kernel
theorem d_Si_reserveFor_30 : decode b_Si_reserveFor 30 = .ok (.aload_n 0, 1) := by decide +kernel
theorem d_Si_reserveFor_31 : decode b_Si_reserveFor 31 = .ok (.getfield 26, 3) := by decide +kernel
theorem d_Si_reserveFor_34 : decode b_Si_reserveFor 34 = .ok (.iload_n 1, 1) := by decide +kernel
theorem d_Si_reserveFor_35 : decode b_Si_reserveFor 35 = .ok (.aaload, 1) := by decide +kernel
theorem d_Si_reserveFor_36 : decode b_Si_reserveFor 36 = .ok (.areturn, 1) := by decide +kernel
theorem d_Si_entriesLeft_0 : decode b_Si_entriesLeft 0 = .ok (.iconst 0, 1) := by decide +kernel
theorem d_Si_entriesLeft_1 : decode b_Si_entriesLeft 1 = .ok (.istore_n 1, 1) := by decide +kernel
theorem d_Si_entriesLeft_2 : decode b_Si_entriesLeft 2 = .ok (.iconst 0, 1) := by decide +kernel
theorem d_Si_entriesLeft_3 : decode b_Si_entriesLeft 3 = .ok (.istore_n 2, 1) := by decide +kernel
theorem d_Si_entriesLeft_4 : decode b_Si_entriesLeft 4 = .ok (.iload_n 2, 1) := by decide +kernel
theorem d_Si_entriesLeft_5 : decode b_Si_entriesLeft 5 = .ok (.aload_n 0, 1) := by decide +kernel
theorem d_Si_entriesLeft_6 : decode b_Si_entriesLeft 6 = .ok (.getfield 26, 3) := by decide +kernel
theorem d_Si_entriesLeft_9 : decode b_Si_entriesLeft 9 = .ok (.arraylength, 1) := by decide +kernel
theorem d_Si_entriesLeft_10 : decode b_Si_entriesLeft 10 = .ok (.if_icmp .ge 27, 3) := by decide +kernel
theorem d_Si_entriesLeft_13 : decode b_Si_entriesLeft 13 = .ok (.aload_n 0, 1) := by decide +kernel
theorem d_Si_entriesLeft_14 : decode b_Si_entriesLeft 14 = .ok (.iload_n 2, 1) := by decide +kernel
theorem d_Si_entriesLeft_15 : decode b_Si_entriesLeft 15 = .ok (.invokevirtual 44, 3) := by decide +kernel
theorem d_Si_entriesLeft_18 : decode b_Si_entriesLeft 18 = .ok (.astore_n 3, 1) := by decide +kernel
theorem d_Si_entriesLeft_19 : decode b_Si_entriesLeft 19 = .ok (.iload_n 1, 1) := by decide +kernel
theorem d_Si_entriesLeft_20 : decode b_Si_entriesLeft 20 = .ok (.aload_n 3, 1) := by decide +kernel
theorem d_Si_entriesLeft_21 : decode b_Si_entriesLeft 21 = .ok (.getfield 48, 3) := by decide +kernel
theorem d_Si_entriesLeft_24 : decode b_Si_entriesLeft 24 = .ok (.aload_n 3, 1) := by decide +kernel
theorem d_Si_entriesLeft_25 : decode b_Si_entriesLeft 25 = .ok (.getfield 52, 3) := by decide +kernel
theorem d_Si_entriesLeft_28 : decode b_Si_entriesLeft 28 = .ok (.isub, 1) := by decide +kernel
theorem d_Si_entriesLeft_29 : decode b_Si_entriesLeft 29 = .ok (.iadd, 1) := by decide +kernel
theorem d_Si_entriesLeft_30 : decode b_Si_entriesLeft 30 = .ok (.istore_n 1, 1) := by decide +kernel
theorem d_Si_entriesLeft_31 : decode b_Si_entriesLeft 31 = .ok (.iinc 2 1, 3) := by decide +kernel
theorem d_Si_entriesLeft_34 : decode b_Si_entriesLeft 34 = .ok (.goto (-30), 3) := by decide +kernel
theorem d_Si_entriesLeft_37 : decode b_Si_entriesLeft 37 = .ok (.iload_n 1, 1) := by decide +kernel
theorem d_Si_entriesLeft_38 : decode b_Si_entriesLeft 38 = .ok (.ireturn, 1) := by decide +kernel
theorem d_Si_dropReserves_0 : decode b_Si_dropReserves 0 = .ok (.iconst 0, 1) := by decide +kernel
theorem d_Si_dropReserves_1 : decode b_Si_dropReserves 1 = .ok (.istore_n 1, 1) := by decide +kernel
theorem d_Si_dropReserves_2 : decode b_Si_dropReserves 2 = .ok (.iload_n 1, 1) := by decide +kernel
theorem d_Si_dropReserves_3 : decode b_Si_dropReserves 3 = .ok (.aload_n 0, 1) := by decide +kernel
theorem d_Si_dropReserves_4 : decode b_Si_dropReserves 4 = .ok (.getfield 26, 3) := by decide +kernel
theorem d_Si_dropReserves_7 : decode b_Si_dropReserves 7 = .ok (.arraylength, 1) := by decide +kernel
theorem d_Si_dropReserves_8 : decode b_Si_dropReserves 8 = .ok (.if_icmp .ge 17, 3) := by decide +kernel
theorem d_Si_dropReserves_11 : decode b_Si_dropReserves 11 = .ok (.aload_n 0, 1) := by decide +kernel
theorem d_Si_dropReserves_12 : decode b_Si_dropReserves 12 = .ok (.iload_n 1, 1) := by decide +kernel
theorem d_Si_dropReserves_13 : decode b_Si_dropReserves 13 = .ok (.invokevirtual 44, 3) := by decide +kernel
theorem d_Si_dropReserves_16 : decode b_Si_dropReserves 16 = .ok (.invokevirtual 55, 3) := by decide +kernel
theorem d_Si_dropReserves_19 : decode b_Si_dropReserves 19 = .ok (.iinc 1 1, 3) := by decide +kernel
theorem d_Si_dropReserves_22 : decode b_Si_dropReserves 22 = .ok (.goto (-20), 3) := by decide +kernel
theorem d_Si_dropReserves_25 : decode b_Si_dropReserves 25 = .ok (.return_, 1) := by decide +kernel
theorem d_Si_isPerson_0 : decode b_Si_isPerson 0 = .ok (.iload_n 0, 1) := by decide +kernel
theorem d_Si_isPerson_1 : decode b_Si_isPerson 1 = .ok (.ifCond .lt 13, 3) := by decide +kernel
theorem d_Si_isPerson_4 : decode b_Si_isPerson 4 = .ok (.iload_n 0, 1) := by decide +kernel
theorem d_Si_isPerson_5 : decode b_Si_isPerson 5 = .ok (.bipush 100, 2) := by decide +kernel
theorem d_Si_isPerson_7 : decode b_Si_isPerson 7 = .ok (.if_icmp .ge 7, 3) := by decide +kernel
theorem d_Si_isPerson_10 : decode b_Si_isPerson 10 = .ok (.iconst 1, 1) := by decide +kernel
theorem d_Si_isPerson_11 : decode b_Si_isPerson 11 = .ok (.goto 4, 3) := by decide +kernel
theorem d_Si_isPerson_14 : decode b_Si_isPerson 14 = .ok (.iconst 0, 1) := by decide +kernel
theorem d_Si_isPerson_15 : decode b_Si_isPerson 15 = .ok (.ireturn, 1) := by decide +kernel
theorem d_St_init_0 : decode b_St_init 0 = .ok (.aload_n 0, 1) := by decide +kernel
theorem d_St_init_1 : decode b_St_init 1 = .ok (.invokespecial 3, 3) := by decide +kernel
theorem d_St_init_4 : decode b_St_init 4 = .ok (.aload_n 0, 1) := by decide +kernel
theorem d_St_init_5 : decode b_St_init 5 = .ok (.iconst 4, 1) := by decide +kernel
theorem d_St_init_6 : decode b_St_init 6 = .ok (.newarray .int, 2) := by decide +kernel
theorem d_St_init_8 : decode b_St_init 8 = .ok (.putfield 9, 3) := by decide +kernel
theorem d_St_init_11 : decode b_St_init 11 = .ok (.aload_n 0, 1) := by decide +kernel
theorem d_St_init_12 : decode b_St_init 12 = .ok (.iconst 0, 1) := by decide +kernel
theorem d_St_init_13 : decode b_St_init 13 = .ok (.newarray .int, 2) := by decide +kernel
theorem d_St_init_15 : decode b_St_init 15 = .ok (.putfield 15, 3) := by decide +kernel
theorem d_St_init_18 : decode b_St_init 18 = .ok (.aload_n 0, 1) := by decide +kernel
theorem d_St_init_19 : decode b_St_init 19 = .ok (.aload_n 1, 1) := by decide +kernel
theorem d_St_init_20 : decode b_St_init 20 = .ok (.putfield 18, 3) := by decide +kernel
theorem d_St_init_23 : decode b_St_init 23 = .ok (.aload_n 0, 1) := by decide +kernel
theorem d_St_init_24 : decode b_St_init 24 = .ok (.iload_n 2, 1) := by decide +kernel
theorem d_St_init_25 : decode b_St_init 25 = .ok (.putfield 22, 3) := by decide +kernel
theorem d_St_init_28 : decode b_St_init 28 = .ok (.return_, 1) := by decide +kernel
theorem d_St_restart_0 : decode b_St_restart 0 = .ok (.aload_n 0, 1) := by decide +kernel
theorem d_St_restart_1 : decode b_St_restart 1 = .ok (.lload_n 1, 1) := by decide +kernel
theorem d_St_restart_2 : decode b_St_restart 2 = .ok (.aload_n 0, 1) := by decide +kernel
theorem d_St_restart_3 : decode b_St_restart 3 = .ok (.getfield 22, 3) := by decide +kernel
theorem d_St_restart_6 : decode b_St_restart 6 = .ok (.iconst 1, 1) := by decide +kernel
theorem d_St_restart_7 : decode b_St_restart 7 = .ok (.iadd, 1) := by decide +kernel
theorem d_St_restart_8 : decode b_St_restart 8 = .ok (.i2l, 1) := by decide +kernel
theorem d_St_restart_9 : decode b_St_restart 9 = .ok (.ldc2_w 26, 3) := by decide +kernel
theorem d_St_restart_12 : decode b_St_restart 12 = .ok (.lmul, 1) := by decide +kernel
theorem d_St_restart_13 : decode b_St_restart 13 = .ok (.lxor, 1) := by decide +kernel
theorem d_St_restart_14 : decode b_St_restart 14 = .ok (.putfield 28, 3) := by decide +kernel
theorem d_St_restart_17 : decode b_St_restart 17 = .ok (.aload_n 0, 1) := by decide +kernel
theorem d_St_restart_18 : decode b_St_restart 18 = .ok (.getfield 28, 3) := by decide +kernel
theorem d_St_restart_21 : decode b_St_restart 21 = .ok (.lconst 0, 1) := by decide +kernel
theorem d_St_restart_22 : decode b_St_restart 22 = .ok (.lcmp, 1) := by decide +kernel
theorem d_St_restart_23 : decode b_St_restart 23 = .ok (.ifCond .ne 8, 3) := by decide +kernel
theorem d_St_restart_26 : decode b_St_restart 26 = .ok (.aload_n 0, 1) := by decide +kernel
theorem d_St_restart_27 : decode b_St_restart 27 = .ok (.lconst 1, 1) := by decide +kernel
theorem d_St_restart_28 : decode b_St_restart 28 = .ok (.putfield 28, 3) := by decide +kernel
theorem d_St_restart_31 : decode b_St_restart 31 = .ok (.aload_n 0, 1) := by decide +kernel
theorem d_St_restart_32 : decode b_St_restart 32 = .ok (.iconst 0, 1) := by decide +kernel
theorem d_St_restart_33 : decode b_St_restart 33 = .ok (.putfield 32, 3) := by decide +kernel
theorem d_St_restart_36 : decode b_St_restart 36 = .ok (.return_, 1) := by decide +kernel
theorem d_St_nextArm_0 : decode b_St_nextArm 0 = .ok (.aload_n 0, 1) := by decide +kernel
theorem d_St_nextArm_1 : decode b_St_nextArm 1 = .ok (.getfield 35, 3) := by decide +kernel
theorem d_St_nextArm_4 : decode b_St_nextArm 4 = .ok (.ifCond .le 14, 3) := by decide +kernel
theorem d_St_nextArm_7 : decode b_St_nextArm 7 = .ok (.aload_n 0, 1) := by decide +kernel
theorem d_St_nextArm_8 : decode b_St_nextArm 8 = .ok (.aload_n 0, 1) := by decide +kernel
theorem d_St_nextArm_9 : decode b_St_nextArm 9 = .ok (.getfield 38, 3) := by decide +kernel
theorem d_St_nextArm_12 : decode b_St_nextArm 12 = .ok (.invokevirtual 41, 3) := by decide +kernel
theorem d_St_nextArm_15 : decode b_St_nextArm 15 = .ok (.goto 8, 3) := by decide +kernel
theorem d_St_nextArm_18 : decode b_St_nextArm 18 = .ok (.aload_n 0, 1) := by decide +kernel
theorem d_St_nextArm_19 : decode b_St_nextArm 19 = .ok (.iconst 0, 1) := by decide +kernel
theorem d_St_nextArm_20 : decode b_St_nextArm 20 = .ok (.invokevirtual 45, 3) := by decide +kernel
theorem d_St_nextArm_23 : decode b_St_nextArm 23 = .ok (.ireturn, 1) := by decide +kernel
theorem d_St_armAhead_0 : decode b_St_armAhead 0 = .ok (.aload_n 0, 1) := by decide +kernel
theorem d_St_armAhead_1 : decode b_St_armAhead 1 = .ok (.getfield 48, 3) := by decide +kernel
theorem d_St_armAhead_4 : decode b_St_armAhead 4 = .ok (.aload_n 0, 1) := by decide +kernel
theorem d_St_armAhead_5 : decode b_St_armAhead 5 = .ok (.getfield 32, 3) := by decide +kernel
theorem d_St_armAhead_8 : decode b_St_armAhead 8 = .ok (.if_icmp .ne 7, 3) := by decide +kernel
theorem d_St_armAhead_11 : decode b_St_armAhead 11 = .ok (.aload_n 0, 1) := by decide +kernel
theorem d_St_armAhead_12 : decode b_St_armAhead 12 = .ok (.invokevirtual 51, 3) := by decide +kernel
theorem d_St_armAhead_15 : decode b_St_armAhead 15 = .ok (.aload_n 0, 1) := by decide +kernel
theorem d_St_armAhead_16 : decode b_St_armAhead 16 = .ok (.aload_n 0, 1) := by decide +kernel
theorem d_St_armAhead_17 : decode b_St_armAhead 17 = .ok (.getfield 48, 3) := by decide +kernel
theorem d_St_armAhead_20 : decode b_St_armAhead 20 = .ok (.aload_n 0, 1) := by decide +kernel
theorem d_St_armAhead_21 : decode b_St_armAhead 21 = .ok (.getfield 18, 3) := by decide +kernel
theorem d_St_armAhead_24 : decode b_St_armAhead 24 = .ok (.getfield 54, 3) := by decide +kernel
theorem d_St_armAhead_27 : decode b_St_armAhead 27 = .ok (.imul, 1) := by decide +kernel
theorem d_St_armAhead_28 : decode b_St_armAhead 28 = .ok (.iload_n 1, 1) := by decide +kernel
theorem d_St_armAhead_29 : decode b_St_armAhead 29 = .ok (.iadd, 1) := by decide +kernel
theorem d_St_armAhead_30 : decode b_St_armAhead 30 = .ok (.invokevirtual 41, 3) := by decide +kernel
theorem d_St_armAhead_33 : decode b_St_armAhead 33 = .ok (.ireturn, 1) := by decide +kernel
theorem d_St_takenArm_0 : decode b_St_takenArm 0 = .ok (.iload_n 1, 1) := by decide +kernel
theorem d_St_takenArm_1 : decode b_St_takenArm 1 = .ok (.aload_n 0, 1) := by decide +kernel
theorem d_St_takenArm_2 : decode b_St_takenArm 2 = .ok (.getfield 48, 3) := by decide +kernel
theorem d_St_takenArm_5 : decode b_St_takenArm 5 = .ok (.aload_n 0, 1) := by decide +kernel
theorem d_St_takenArm_6 : decode b_St_takenArm 6 = .ok (.getfield 18, 3) := by decide +kernel
theorem d_St_takenArm_9 : decode b_St_takenArm 9 = .ok (.getfield 54, 3) := by decide +kernel
theorem d_St_takenArm_12 : decode b_St_takenArm 12 = .ok (.imul, 1) := by decide +kernel
theorem d_St_takenArm_13 : decode b_St_takenArm 13 = .ok (.if_icmp .ge 11, 3) := by decide +kernel
theorem d_St_takenArm_16 : decode b_St_takenArm 16 = .ok (.aload_n 0, 1) := by decide +kernel
theorem d_St_takenArm_17 : decode b_St_takenArm 17 = .ok (.iload_n 1, 1) := by decide +kernel
theorem d_St_takenArm_18 : decode b_St_takenArm 18 = .ok (.invokevirtual 41, 3) := by decide +kernel
theorem d_St_takenArm_21 : decode b_St_takenArm 21 = .ok (.goto 4, 3) := by decide +kernel
theorem d_St_takenArm_24 : decode b_St_takenArm 24 = .ok (.iconst (-1), 1) := by decide +kernel
theorem d_St_takenArm_25 : decode b_St_takenArm 25 = .ok (.ireturn, 1) := by decide +kernel
theorem d_St_takeEntry_0 : decode b_St_takeEntry 0 = .ok (.aload_n 0, 1) := by decide +kernel
theorem d_St_takeEntry_1 : decode b_St_takeEntry 1 = .ok (.getfield 35, 3) := by decide +kernel
theorem d_St_takeEntry_4 : decode b_St_takeEntry 4 = .ok (.ifCond .ne 30, 3) := by decide +kernel
theorem d_St_takeEntry_7 : decode b_St_takeEntry 7 = .ok (.aload_n 0, 1) := by decide +kernel
theorem d_St_takeEntry_8 : decode b_St_takeEntry 8 = .ok (.aload_n 0, 1) := by decide +kernel
theorem d_St_takeEntry_9 : decode b_St_takeEntry 9 = .ok (.invokevirtual 59, 3) := by decide +kernel
theorem d_St_takeEntry_12 : decode b_St_takeEntry 12 = .ok (.aload_n 0, 1) := by decide +kernel
theorem d_St_takeEntry_13 : decode b_St_takeEntry 13 = .ok (.getfield 18, 3) := by decide +kernel
theorem d_St_takeEntry_16 : decode b_St_takeEntry 16 = .ok (.getfield 54, 3) := by decide +kernel
theorem d_St_takeEntry_19 : decode b_St_takeEntry 19 = .ok (.imul, 1) := by decide +kernel
theorem d_St_takeEntry_20 : decode b_St_takeEntry 20 = .ok (.putfield 38, 3) := by decide +kernel
theorem d_St_takeEntry_23 : decode b_St_takeEntry 23 = .ok (.aload_n 0, 1) := by decide +kernel
theorem d_St_takeEntry_24 : decode b_St_takeEntry 24 = .ok (.aload_n 0, 1) := by decide +kernel
theorem d_St_takeEntry_25 : decode b_St_takeEntry 25 = .ok (.getfield 18, 3) := by decide +kernel
theorem d_St_takeEntry_28 : decode b_St_takeEntry 28 = .ok (.getfield 54, 3) := by decide +kernel
theorem d_St_takeEntry_31 : decode b_St_takeEntry 31 = .ok (.putfield 35, 3) := by decide +kernel
theorem d_St_takeEntry_34 : decode b_St_takeEntry 34 = .ok (.aload_n 0, 1) := by decide +kernel
theorem d_St_takeEntry_35 : decode b_St_takeEntry 35 = .ok (.dup, 1) := by decide +kernel
theorem d_St_takeEntry_36 : decode b_St_takeEntry 36 = .ok (.getfield 38, 3) := by decide +kernel
theorem d_St_takeEntry_39 : decode b_St_takeEntry 39 = .ok (.iconst 1, 1) := by decide +kernel
theorem d_St_takeEntry_40 : decode b_St_takeEntry 40 = .ok (.iadd, 1) := by decide +kernel
theorem d_St_takeEntry_41 : decode b_St_takeEntry 41 = .ok (.putfield 38, 3) := by decide +kernel
theorem d_St_takeEntry_44 : decode b_St_takeEntry 44 = .ok (.aload_n 0, 1) := by decide +kernel
theorem d_St_takeEntry_45 : decode b_St_takeEntry 45 = .ok (.dup, 1) := by decide +kernel
theorem d_St_takeEntry_46 : decode b_St_takeEntry 46 = .ok (.getfield 35, 3) := by decide +kernel
theorem d_St_takeEntry_49 : decode b_St_takeEntry 49 = .ok (.iconst 1, 1) := by decide +kernel
theorem d_St_takeEntry_50 : decode b_St_takeEntry 50 = .ok (.isub, 1) := by decide +kernel
theorem d_St_takeEntry_51 : decode b_St_takeEntry 51 = .ok (.putfield 35, 3) := by decide +kernel
theorem d_St_takeEntry_54 : decode b_St_takeEntry 54 = .ok (.return_, 1) := by decide +kernel
theorem d_St_takeBlock_0 : decode b_St_takeBlock 0 = .ok (.aload_n 0, 1) := by decide +kernel
theorem d_St_takeBlock_1 : decode b_St_takeBlock 1 = .ok (.dup, 1) := by decide +kernel
theorem d_St_takeBlock_2 : decode b_St_takeBlock 2 = .ok (.getfield 48, 3) := by decide +kernel
theorem d_St_takeBlock_5 : decode b_St_takeBlock 5 = .ok (.iconst 1, 1) := by decide +kernel
theorem d_St_takeBlock_6 : decode b_St_takeBlock 6 = .ok (.iadd, 1) := by decide +kernel
theorem d_St_takeBlock_7 : decode b_St_takeBlock 7 = .ok (.putfield 48, 3) := by decide +kernel
theorem d_St_takeBlock_10 : decode b_St_takeBlock 10 = .ok (.aload_n 0, 1) := by decide +kernel
theorem d_St_takeBlock_11 : decode b_St_takeBlock 11 = .ok (.getfield 48, 3) := by decide +kernel
theorem d_St_takeBlock_14 : decode b_St_takeBlock 14 = .ok (.iconst 1, 1) := by decide +kernel
theorem d_St_takeBlock_15 : decode b_St_takeBlock 15 = .ok (.isub, 1) := by decide +kernel
theorem d_St_takeBlock_16 : decode b_St_takeBlock 16 = .ok (.ireturn, 1) := by decide +kernel
theorem d_St_addKnown_0 : decode b_St_addKnown 0 = .ok (.iload_n 1, 1) := by decide +kernel
theorem d_St_addKnown_1 : decode b_St_addKnown 1 = .ok (.ifCond .lt 22, 3) := by decide +kernel
theorem d_St_addKnown_4 : decode b_St_addKnown 4 = .ok (.iload_n 1, 1) := by decide +kernel
theorem d_St_addKnown_5 : decode b_St_addKnown 5 = .ok (.aload_n 0, 1) := by decide +kernel
theorem d_St_addKnown_6 : decode b_St_addKnown 6 = .ok (.getfield 9, 3) := by decide +kernel
theorem d_St_addKnown_9 : decode b_St_addKnown 9 = .ok (.arraylength, 1) := by decide +kernel
theorem d_St_addKnown_10 : decode b_St_addKnown 10 = .ok (.if_icmp .ge 13, 3) := by decide +kernel
theorem d_St_addKnown_13 : decode b_St_addKnown 13 = .ok (.aload_n 0, 1) := by decide +kernel
theorem d_St_addKnown_14 : decode b_St_addKnown 14 = .ok (.getfield 9, 3) := by decide +kernel
theorem d_St_addKnown_17 : decode b_St_addKnown 17 = .ok (.iload_n 1, 1) := by decide +kernel
theorem d_St_addKnown_18 : decode b_St_addKnown 18 = .ok (.dup2, 1) := by decide +kernel
theorem d_St_addKnown_19 : decode b_St_addKnown 19 = .ok (.iaload, 1) := by decide +kernel
theorem d_St_addKnown_20 : decode b_St_addKnown 20 = .ok (.iconst 1, 1) := by decide +kernel
theorem d_St_addKnown_21 : decode b_St_addKnown 21 = .ok (.iadd, 1) := by decide +kernel
theorem d_St_addKnown_22 : decode b_St_addKnown 22 = .ok (.iastore, 1) := by decide +kernel
theorem d_St_addKnown_23 : decode b_St_addKnown 23 = .ok (.return_, 1) := by decide +kernel
theorem d_St_knownWith_0 : decode b_St_knownWith 0 = .ok (.iload_n 1, 1) := by decide +kernel
theorem d_St_knownWith_1 : decode b_St_knownWith 1 = .ok (.ifCond .lt 21, 3) := by decide +kernel
theorem d_St_knownWith_4 : decode b_St_knownWith 4 = .ok (.iload_n 1, 1) := by decide +kernel
theorem d_St_knownWith_5 : decode b_St_knownWith 5 = .ok (.aload_n 0, 1) := by decide +kernel
theorem d_St_knownWith_6 : decode b_St_knownWith 6 = .ok (.getfield 9, 3) := by decide +kernel
theorem d_St_knownWith_9 : decode b_St_knownWith 9 = .ok (.arraylength, 1) := by decide +kernel
theorem d_St_knownWith_10 : decode b_St_knownWith 10 = .ok (.if_icmp .ge 12, 3) := by decide +kernel
theorem d_St_knownWith_13 : decode b_St_knownWith 13 = .ok (.aload_n 0, 1) := by decide +kernel
theorem d_St_knownWith_14 : decode b_St_knownWith 14 = .ok (.getfield 9, 3) := by decide +kernel
theorem d_St_knownWith_17 : decode b_St_knownWith 17 = .ok (.iload_n 1, 1) := by decide +kernel
theorem d_St_knownWith_18 : decode b_St_knownWith 18 = .ok (.iaload, 1) := by decide +kernel
theorem d_St_knownWith_19 : decode b_St_knownWith 19 = .ok (.goto 4, 3) := by decide +kernel
theorem d_St_knownWith_22 : decode b_St_knownWith 22 = .ok (.iconst 0, 1) := by decide +kernel
theorem d_St_knownWith_23 : decode b_St_knownWith 23 = .ok (.ireturn, 1) := by decide +kernel
theorem d_St_widestGap_0 : decode b_St_widestGap 0 = .ok (.iconst 0, 1) := by decide +kernel
theorem d_St_widestGap_1 : decode b_St_widestGap 1 = .ok (.istore_n 1, 1) := by decide +kernel
theorem d_St_widestGap_2 : decode b_St_widestGap 2 = .ok (.iconst 0, 1) := by decide +kernel
theorem d_St_widestGap_3 : decode b_St_widestGap 3 = .ok (.istore_n 2, 1) := by decide +kernel
theorem d_St_widestGap_4 : decode b_St_widestGap 4 = .ok (.iload_n 2, 1) := by decide +kernel
theorem d_St_widestGap_5 : decode b_St_widestGap 5 = .ok (.aload_n 0, 1) := by decide +kernel
theorem d_St_widestGap_6 : decode b_St_widestGap 6 = .ok (.getfield 18, 3) := by decide +kernel
theorem d_St_widestGap_9 : decode b_St_widestGap 9 = .ok (.getfield 63, 3) := by decide +kernel
theorem d_St_widestGap_12 : decode b_St_widestGap 12 = .ok (.if_icmp .ge 71, 3) := by decide +kernel
theorem d_St_widestGap_15 : decode b_St_widestGap 15 = .ok (.iload_n 2, 1) := by decide +kernel
theorem d_St_widestGap_16 : decode b_St_widestGap 16 = .ok (.iconst 1, 1) := by decide +kernel
theorem d_St_widestGap_17 : decode b_St_widestGap 17 = .ok (.iadd, 1) := by decide +kernel
theorem d_St_widestGap_18 : decode b_St_widestGap 18 = .ok (.istore_n 3, 1) := by decide +kernel
theorem d_St_widestGap_19 : decode b_St_widestGap 19 = .ok (.iload_n 3, 1) := by decide +kernel
theorem d_St_widestGap_20 : decode b_St_widestGap 20 = .ok (.aload_n 0, 1) := by decide +kernel
theorem d_St_widestGap_21 : decode b_St_widestGap 21 = .ok (.getfield 18, 3) := by decide +kernel
theorem d_St_widestGap_24 : decode b_St_widestGap 24 = .ok (.getfield 63, 3) := by decide +kernel
theorem d_St_widestGap_27 : decode b_St_widestGap 27 = .ok (.if_icmp .ge 50, 3) := by decide +kernel
theorem d_St_widestGap_30 : decode b_St_widestGap 30 = .ok (.aload_n 0, 1) := by decide +kernel
theorem d_St_widestGap_31 : decode b_St_widestGap 31 = .ok (.iload_n 2, 1) := by decide +kernel
theorem d_St_widestGap_32 : decode b_St_widestGap 32 = .ok (.invokevirtual 66, 3) := by decide +kernel
theorem d_St_widestGap_35 : decode b_St_widestGap 35 = .ok (.aload_n 0, 1) := by decide +kernel
theorem d_St_widestGap_36 : decode b_St_widestGap 36 = .ok (.getfield 18, 3) := by decide +kernel
theorem d_St_widestGap_39 : decode b_St_widestGap 39 = .ok (.iload_n 3, 1) := by decide +kernel
theorem d_St_widestGap_40 : decode b_St_widestGap 40 = .ok (.invokevirtual 69, 3) := by decide +kernel
theorem d_St_widestGap_43 : decode b_St_widestGap 43 = .ok (.imul, 1) := by decide +kernel
theorem d_St_widestGap_44 : decode b_St_widestGap 44 = .ok (.aload_n 0, 1) := by decide +kernel
theorem d_St_widestGap_45 : decode b_St_widestGap 45 = .ok (.iload_n 3, 1) := by decide +kernel
theorem d_St_widestGap_46 : decode b_St_widestGap 46 = .ok (.invokevirtual 66, 3) := by decide +kernel
theorem d_St_widestGap_49 : decode b_St_widestGap 49 = .ok (.aload_n 0, 1) := by decide +kernel
theorem d_St_widestGap_50 : decode b_St_widestGap 50 = .ok (.getfield 18, 3) := by decide +kernel
theorem d_St_widestGap_53 : decode b_St_widestGap 53 = .ok (.iload_n 2, 1) := by decide +kernel
theorem d_St_widestGap_54 : decode b_St_widestGap 54 = .ok (.invokevirtual 69, 3) := by decide +kernel
theorem d_St_widestGap_57 : decode b_St_widestGap 57 = .ok (.imul, 1) := by decide +kernel
theorem d_St_widestGap_58 : decode b_St_widestGap 58 = .ok (.isub, 1) := by decide +kernel
theorem d_St_widestGap_59 : decode b_St_widestGap 59 = .ok (.istore 4, 2) := by decide +kernel
theorem d_St_widestGap_61 : decode b_St_widestGap 61 = .ok (.iload_n 1, 1) := by decide +kernel
theorem d_St_widestGap_62 : decode b_St_widestGap 62 = .ok (.iload 4, 2) := by decide +kernel
theorem d_St_widestGap_64 : decode b_St_widestGap 64 = .ok (.invokestatic 72, 3) := by decide +kernel
theorem d_St_widestGap_67 : decode b_St_widestGap 67 = .ok (.invokestatic 77, 3) := by decide +kernel
theorem d_St_widestGap_70 : decode b_St_widestGap 70 = .ok (.istore_n 1, 1) := by decide +kernel
theorem d_St_widestGap_71 : decode b_St_widestGap 71 = .ok (.iinc 3 1, 3) := by decide +kernel
theorem d_St_widestGap_74 : decode b_St_widestGap 74 = .ok (.goto (-55), 3) := by decide +kernel
theorem d_St_widestGap_77 : decode b_St_widestGap 77 = .ok (.iinc 2 1, 3) := by decide +kernel
theorem d_St_widestGap_80 : decode b_St_widestGap 80 = .ok (.goto (-76), 3) := by decide +kernel
theorem d_St_widestGap_83 : decode b_St_widestGap 83 = .ok (.iload_n 1, 1) := by decide +kernel
theorem d_St_widestGap_84 : decode b_St_widestGap 84 = .ok (.ireturn, 1) := by decide +kernel
theorem d_St_armAt_0 : decode b_St_armAt 0 = .ok (.iload_n 1, 1) := by decide +kernel
theorem d_St_armAt_1 : decode b_St_armAt 1 = .ok (.ifCond .lt 37, 3) := by decide +kernel
theorem d_St_armAt_4 : decode b_St_armAt 4 = .ok (.iload_n 1, 1) := by decide +kernel
theorem d_St_armAt_5 : decode b_St_armAt 5 = .ok (.aload_n 0, 1) := by decide +kernel
theorem d_St_armAt_6 : decode b_St_armAt 6 = .ok (.getfield 32, 3) := by decide +kernel
theorem d_St_armAt_9 : decode b_St_armAt 9 = .ok (.aload_n 0, 1) := by decide +kernel
theorem d_St_armAt_10 : decode b_St_armAt 10 = .ok (.getfield 18, 3) := by decide +kernel
theorem d_St_armAt_13 : decode b_St_armAt 13 = .ok (.getfield 54, 3) := by decide +kernel
theorem d_St_armAt_16 : decode b_St_armAt 16 = .ok (.imul, 1) := by decide +kernel
theorem d_St_armAt_17 : decode b_St_armAt 17 = .ok (.if_icmp .ge 21, 3) := by decide +kernel
theorem d_St_armAt_20 : decode b_St_armAt 20 = .ok (.iload_n 1, 1) := by decide +kernel
theorem d_St_armAt_21 : decode b_St_armAt 21 = .ok (.aload_n 0, 1) := by decide +kernel
theorem d_St_armAt_22 : decode b_St_armAt 22 = .ok (.getfield 15, 3) := by decide +kernel
theorem d_St_armAt_25 : decode b_St_armAt 25 = .ok (.arraylength, 1) := by decide +kernel
theorem d_St_armAt_26 : decode b_St_armAt 26 = .ok (.if_icmp .ge 12, 3) := by decide +kernel
theorem d_St_armAt_29 : decode b_St_armAt 29 = .ok (.aload_n 0, 1) := by decide +kernel
theorem d_St_armAt_30 : decode b_St_armAt 30 = .ok (.getfield 15, 3) := by decide +kernel
theorem d_St_armAt_33 : decode b_St_armAt 33 = .ok (.iload_n 1, 1) := by decide +kernel
theorem d_St_armAt_34 : decode b_St_armAt 34 = .ok (.iaload, 1) := by decide +kernel
theorem d_St_armAt_35 : decode b_St_armAt 35 = .ok (.goto 4, 3) := by decide +kernel
theorem d_St_armAt_38 : decode b_St_armAt 38 = .ok (.iconst (-1), 1) := by decide +kernel
theorem d_St_armAt_39 : decode b_St_armAt 39 = .ok (.ireturn, 1) := by decide +kernel
theorem d_St_build_0 : decode b_St_build 0 = .ok (.aload_n 0, 1) := by decide +kernel
theorem d_St_build_1 : decode b_St_build 1 = .ok (.getfield 32, 3) := by decide +kernel
theorem d_St_build_4 : decode b_St_build 4 = .ok (.sipush 512, 3) := by decide +kernel
theorem d_St_build_7 : decode b_St_build 7 = .ok (.if_icmp .lt 4, 3) := by decide +kernel
theorem d_St_build_10 : decode b_St_build 10 = .ok (.return_, 1) := by decide +kernel
theorem d_St_build_11 : decode b_St_build 11 = .ok (.aload_n 0, 1) := by decide +kernel
theorem d_St_build_12 : decode b_St_build 12 = .ok (.getfield 32, 3) := by decide +kernel
theorem d_St_build_15 : decode b_St_build 15 = .ok (.aload_n 0, 1) := by decide +kernel
theorem d_St_build_16 : decode b_St_build 16 = .ok (.getfield 18, 3) := by decide +kernel
theorem d_St_build_19 : decode b_St_build 19 = .ok (.getfield 54, 3) := by decide +kernel
theorem d_St_build_22 : decode b_St_build 22 = .ok (.imul, 1) := by decide +kernel
theorem d_St_build_23 : decode b_St_build 23 = .ok (.istore_n 1, 1) := by decide +kernel
theorem d_St_build_24 : decode b_St_build 24 = .ok (.aload_n 0, 1) := by decide +kernel
theorem d_St_build_25 : decode b_St_build 25 = .ok (.iload_n 1, 1) := by decide +kernel
theorem d_St_build_26 : decode b_St_build 26 = .ok (.aload_n 0, 1) := by decide +kernel
theorem d_St_build_27 : decode b_St_build 27 = .ok (.getfield 18, 3) := by decide +kernel
theorem d_St_build_30 : decode b_St_build 30 = .ok (.getfield 54, 3) := by decide +kernel
theorem d_St_build_33 : decode b_St_build 33 = .ok (.iadd, 1) := by decide +kernel
theorem d_St_build_34 : decode b_St_build 34 = .ok (.invokevirtual 81, 3) := by decide +kernel
theorem d_St_build_37 : decode b_St_build 37 = .ok (.aload_n 0, 1) := by decide +kernel
theorem d_St_build_38 : decode b_St_build 38 = .ok (.iload_n 1, 1) := by decide +kernel
theorem d_St_build_39 : decode b_St_build 39 = .ok (.invokevirtual 85, 3) := by decide +kernel
theorem d_St_build_42 : decode b_St_build 42 = .ok (.aload_n 0, 1) := by decide +kernel
theorem d_St_build_43 : decode b_St_build 43 = .ok (.iload_n 1, 1) := by decide +kernel
theorem d_St_build_44 : decode b_St_build 44 = .ok (.invokevirtual 88, 3) := by decide +kernel
theorem d_St_build_47 : decode b_St_build 47 = .ok (.aload_n 0, 1) := by decide +kernel
theorem d_St_build_48 : decode b_St_build 48 = .ok (.dup, 1) := by decide +kernel
theorem d_St_build_49 : decode b_St_build 49 = .ok (.getfield 32, 3) := by decide +kernel
theorem d_St_build_52 : decode b_St_build 52 = .ok (.iconst 1, 1) := by decide +kernel
theorem d_St_build_53 : decode b_St_build 53 = .ok (.iadd, 1) := by decide +kernel
theorem d_St_build_54 : decode b_St_build 54 = .ok (.putfield 32, 3) := by decide +kernel
theorem d_St_build_57 : decode b_St_build 57 = .ok (.return_, 1) := by decide +kernel
theorem d_St_makeRoom_0 : decode b_St_makeRoom 0 = .ok (.iload_n 1, 1) := by decide +kernel
theorem d_St_makeRoom_1 : decode b_St_makeRoom 1 = .ok (.aload_n 0, 1) := by decide +kernel
theorem d_St_makeRoom_2 : decode b_St_makeRoom 2 = .ok (.getfield 15, 3) := by decide +kernel
theorem d_St_makeRoom_5 : decode b_St_makeRoom 5 = .ok (.arraylength, 1) := by decide +kernel
theorem d_St_makeRoom_6 : decode b_St_makeRoom 6 = .ok (.if_icmp .le 32, 3) := by decide +kernel
theorem d_St_makeRoom_9 : decode b_St_makeRoom 9 = .ok (.iload_n 1, 1) := by decide +kernel
theorem d_St_makeRoom_10 : decode b_St_makeRoom 10 = .ok (.sipush 12288, 3) := by decide +kernel
theorem d_St_makeRoom_13 : decode b_St_makeRoom 13 = .ok (.if_icmp .gt 25, 3) := by decide +kernel
theorem d_St_makeRoom_16 : decode b_St_makeRoom 16 = .ok (.aload_n 0, 1) := by decide +kernel
theorem d_St_makeRoom_17 : decode b_St_makeRoom 17 = .ok (.aload_n 0, 1) := by decide +kernel
theorem d_St_makeRoom_18 : decode b_St_makeRoom 18 = .ok (.getfield 15, 3) := by decide +kernel
theorem d_St_makeRoom_21 : decode b_St_makeRoom 21 = .ok (.iload_n 1, 1) := by decide +kernel
theorem d_St_makeRoom_22 : decode b_St_makeRoom 22 = .ok (.iconst 2, 1) := by decide +kernel
theorem d_St_makeRoom_23 : decode b_St_makeRoom 23 = .ok (.aload_n 0, 1) := by decide +kernel
theorem d_St_makeRoom_24 : decode b_St_makeRoom 24 = .ok (.getfield 15, 3) := by decide +kernel
theorem d_St_makeRoom_27 : decode b_St_makeRoom 27 = .ok (.arraylength, 1) := by decide +kernel
theorem d_St_makeRoom_28 : decode b_St_makeRoom 28 = .ok (.imul, 1) := by decide +kernel
theorem d_St_makeRoom_29 : decode b_St_makeRoom 29 = .ok (.invokestatic 77, 3) := by decide +kernel
theorem d_St_makeRoom_32 : decode b_St_makeRoom 32 = .ok (.invokestatic 91, 3) := by decide +kernel
theorem d_St_makeRoom_35 : decode b_St_makeRoom 35 = .ok (.putfield 15, 3) := by decide +kernel
theorem d_St_makeRoom_38 : decode b_St_makeRoom 38 = .ok (.return_, 1) := by decide +kernel
theorem d_St_layArms_0 : decode b_St_layArms 0 = .ok (.iload_n 1, 1) := by decide +kernel
theorem d_St_layArms_1 : decode b_St_layArms 1 = .ok (.istore_n 2, 1) := by decide +kernel
theorem d_St_layArms_2 : decode b_St_layArms 2 = .ok (.iconst 0, 1) := by decide +kernel
theorem d_St_layArms_3 : decode b_St_layArms 3 = .ok (.istore_n 3, 1) := by decide +kernel
theorem d_St_layArms_4 : decode b_St_layArms 4 = .ok (.iload_n 3, 1) := by decide +kernel
theorem d_St_layArms_5 : decode b_St_layArms 5 = .ok (.aload_n 0, 1) := by decide +kernel
theorem d_St_layArms_6 : decode b_St_layArms 6 = .ok (.getfield 18, 3) := by decide +kernel
theorem d_St_layArms_9 : decode b_St_layArms 9 = .ok (.getfield 63, 3) := by decide +kernel
theorem d_St_layArms_12 : decode b_St_layArms 12 = .ok (.if_icmp .ge 53, 3) := by decide +kernel
theorem d_St_layArms_15 : decode b_St_layArms 15 = .ok (.iload_n 2, 1) := by decide +kernel
theorem d_St_layArms_16 : decode b_St_layArms 16 = .ok (.aload_n 0, 1) := by decide +kernel
theorem d_St_layArms_17 : decode b_St_layArms 17 = .ok (.getfield 18, 3) := by decide +kernel
theorem d_St_layArms_20 : decode b_St_layArms 20 = .ok (.iload_n 3, 1) := by decide +kernel
theorem d_St_layArms_21 : decode b_St_layArms 21 = .ok (.invokevirtual 97, 3) := by decide +kernel
theorem d_St_layArms_24 : decode b_St_layArms 24 = .ok (.iadd, 1) := by decide +kernel
theorem d_St_layArms_25 : decode b_St_layArms 25 = .ok (.istore 4, 2) := by decide +kernel
theorem d_St_layArms_27 : decode b_St_layArms 27 = .ok (.iload_n 2, 1) := by decide +kernel
theorem d_St_layArms_28 : decode b_St_layArms 28 = .ok (.iload 4, 2) := by decide +kernel
theorem d_St_layArms_30 : decode b_St_layArms 30 = .ok (.if_icmp .ge 29, 3) := by decide +kernel
theorem d_St_layArms_33 : decode b_St_layArms 33 = .ok (.iload_n 2, 1) := by decide +kernel
theorem d_St_layArms_34 : decode b_St_layArms 34 = .ok (.ifCond .lt 25, 3) := by decide +kernel
theorem d_St_layArms_37 : decode b_St_layArms 37 = .ok (.iload_n 2, 1) := by decide +kernel
theorem d_St_layArms_38 : decode b_St_layArms 38 = .ok (.aload_n 0, 1) := by decide +kernel
theorem d_St_layArms_39 : decode b_St_layArms 39 = .ok (.getfield 15, 3) := by decide +kernel
theorem d_St_layArms_42 : decode b_St_layArms 42 = .ok (.arraylength, 1) := by decide +kernel
theorem d_St_layArms_43 : decode b_St_layArms 43 = .ok (.if_icmp .ge 16, 3) := by decide +kernel
theorem d_St_layArms_46 : decode b_St_layArms 46 = .ok (.aload_n 0, 1) := by decide +kernel
theorem d_St_layArms_47 : decode b_St_layArms 47 = .ok (.getfield 15, 3) := by decide +kernel
theorem d_St_layArms_50 : decode b_St_layArms 50 = .ok (.iload_n 2, 1) := by decide +kernel
theorem d_St_layArms_51 : decode b_St_layArms 51 = .ok (.iload_n 3, 1) := by decide +kernel
theorem d_St_layArms_52 : decode b_St_layArms 52 = .ok (.iastore, 1) := by decide +kernel
theorem d_St_layArms_53 : decode b_St_layArms 53 = .ok (.iinc 2 1, 3) := by decide +kernel
theorem d_St_layArms_56 : decode b_St_layArms 56 = .ok (.goto (-29), 3) := by decide +kernel
theorem d_St_layArms_59 : decode b_St_layArms 59 = .ok (.iinc 3 1, 3) := by decide +kernel
theorem d_St_layArms_62 : decode b_St_layArms 62 = .ok (.goto (-58), 3) := by decide +kernel
theorem d_St_layArms_65 : decode b_St_layArms 65 = .ok (.return_, 1) := by decide +kernel
theorem d_St_shuffle_0 : decode b_St_shuffle 0 = .ok (.aload_n 0, 1) := by decide +kernel
theorem d_St_shuffle_1 : decode b_St_shuffle 1 = .ok (.getfield 18, 3) := by decide +kernel
theorem d_St_shuffle_4 : decode b_St_shuffle 4 = .ok (.getfield 54, 3) := by decide +kernel
theorem d_St_shuffle_7 : decode b_St_shuffle 7 = .ok (.iconst 1, 1) := by decide +kernel
theorem d_St_shuffle_8 : decode b_St_shuffle 8 = .ok (.isub, 1) := by decide +kernel
theorem d_St_shuffle_9 : decode b_St_shuffle 9 = .ok (.istore_n 2, 1) := by decide +kernel
theorem d_St_shuffle_10 : decode b_St_shuffle 10 = .ok (.iload_n 2, 1) := by decide +kernel
theorem d_St_shuffle_11 : decode b_St_shuffle 11 = .ok (.iconst 1, 1) := by decide +kernel
theorem d_St_shuffle_12 : decode b_St_shuffle 12 = .ok (.if_icmp .lt 25, 3) := by decide +kernel
theorem d_St_shuffle_15 : decode b_St_shuffle 15 = .ok (.aload_n 0, 1) := by decide +kernel
theorem d_St_shuffle_16 : decode b_St_shuffle 16 = .ok (.iload_n 1, 1) := by decide +kernel
theorem d_St_shuffle_17 : decode b_St_shuffle 17 = .ok (.iload_n 2, 1) := by decide +kernel
theorem d_St_shuffle_18 : decode b_St_shuffle 18 = .ok (.iadd, 1) := by decide +kernel
theorem d_St_shuffle_19 : decode b_St_shuffle 19 = .ok (.iload_n 1, 1) := by decide +kernel
theorem d_St_shuffle_20 : decode b_St_shuffle 20 = .ok (.aload_n 0, 1) := by decide +kernel
theorem d_St_shuffle_21 : decode b_St_shuffle 21 = .ok (.iload_n 2, 1) := by decide +kernel
theorem d_St_shuffle_22 : decode b_St_shuffle 22 = .ok (.iconst 1, 1) := by decide +kernel
theorem d_St_shuffle_23 : decode b_St_shuffle 23 = .ok (.iadd, 1) := by decide +kernel
theorem d_St_shuffle_24 : decode b_St_shuffle 24 = .ok (.invokevirtual 100, 3) := by decide +kernel
theorem d_St_shuffle_27 : decode b_St_shuffle 27 = .ok (.iadd, 1) := by decide +kernel
theorem d_St_shuffle_28 : decode b_St_shuffle 28 = .ok (.invokevirtual 103, 3) := by decide +kernel
theorem d_St_shuffle_31 : decode b_St_shuffle 31 = .ok (.iinc 2 (-1), 3) := by decide +kernel
theorem d_St_shuffle_34 : decode b_St_shuffle 34 = .ok (.goto (-24), 3) := by decide +kernel
theorem d_St_shuffle_37 : decode b_St_shuffle 37 = .ok (.return_, 1) := by decide +kernel
theorem d_St_swap_0 : decode b_St_swap 0 = .ok (.iload_n 1, 1) := by decide +kernel
theorem d_St_swap_1 : decode b_St_swap 1 = .ok (.ifCond .lt 51, 3) := by decide +kernel
theorem d_St_swap_4 : decode b_St_swap 4 = .ok (.iload_n 1, 1) := by decide +kernel
theorem d_St_swap_5 : decode b_St_swap 5 = .ok (.aload_n 0, 1) := by decide +kernel
theorem d_St_swap_6 : decode b_St_swap 6 = .ok (.getfield 15, 3) := by decide +kernel
theorem d_St_swap_9 : decode b_St_swap 9 = .ok (.arraylength, 1) := by decide +kernel
theorem d_St_swap_10 : decode b_St_swap 10 = .ok (.if_icmp .ge 42, 3) := by decide +kernel
theorem d_St_swap_13 : decode b_St_swap 13 = .ok (.iload_n 2, 1) := by decide +kernel
theorem d_St_swap_14 : decode b_St_swap 14 = .ok (.ifCond .lt 38, 3) := by decide +kernel
theorem d_St_swap_17 : decode b_St_swap 17 = .ok (.iload_n 2, 1) := by decide +kernel
theorem d_St_swap_18 : decode b_St_swap 18 = .ok (.aload_n 0, 1) := by decide +kernel
theorem d_St_swap_19 : decode b_St_swap 19 = .ok (.getfield 15, 3) := by decide +kernel
theorem d_St_swap_22 : decode b_St_swap 22 = .ok (.arraylength, 1) := by decide +kernel
theorem d_St_swap_23 : decode b_St_swap 23 = .ok (.if_icmp .ge 29, 3) := by decide +kernel
theorem d_St_swap_26 : decode b_St_swap 26 = .ok (.aload_n 0, 1) := by decide +kernel
theorem d_St_swap_27 : decode b_St_swap 27 = .ok (.getfield 15, 3) := by decide +kernel
theorem d_St_swap_30 : decode b_St_swap 30 = .ok (.iload_n 1, 1) := by decide +kernel
theorem d_St_swap_31 : decode b_St_swap 31 = .ok (.iaload, 1) := by decide +kernel
theorem d_St_swap_32 : decode b_St_swap 32 = .ok (.istore_n 3, 1) := by decide +kernel
theorem d_St_swap_33 : decode b_St_swap 33 = .ok (.aload_n 0, 1) := by decide +kernel
theorem d_St_swap_34 : decode b_St_swap 34 = .ok (.getfield 15, 3) := by decide +kernel
theorem d_St_swap_37 : decode b_St_swap 37 = .ok (.iload_n 1, 1) := by decide +kernel
theorem d_St_swap_38 : decode b_St_swap 38 = .ok (.aload_n 0, 1) := by decide +kernel
theorem d_St_swap_39 : decode b_St_swap 39 = .ok (.getfield 15, 3) := by decide +kernel
theorem d_St_swap_42 : decode b_St_swap 42 = .ok (.iload_n 2, 1) := by decide +kernel
theorem d_St_swap_43 : decode b_St_swap 43 = .ok (.iaload, 1) := by decide +kernel
theorem d_St_swap_44 : decode b_St_swap 44 = .ok (.iastore, 1) := by decide +kernel
theorem d_St_swap_45 : decode b_St_swap 45 = .ok (.aload_n 0, 1) := by decide +kernel
theorem d_St_swap_46 : decode b_St_swap 46 = .ok (.getfield 15, 3) := by decide +kernel
theorem d_St_swap_49 : decode b_St_swap 49 = .ok (.iload_n 2, 1) := by decide +kernel
theorem d_St_swap_50 : decode b_St_swap 50 = .ok (.iload_n 3, 1) := by decide +kernel
theorem d_St_swap_51 : decode b_St_swap 51 = .ok (.iastore, 1) := by decide +kernel
theorem d_St_swap_52 : decode b_St_swap 52 = .ok (.return_, 1) := by decide +kernel
theorem d_St_draw_0 : decode b_St_draw 0 = .ok (.iload_n 1, 1) := by decide +kernel
theorem d_St_draw_1 : decode b_St_draw 1 = .ok (.iconst 1, 1) := by decide +kernel
theorem d_St_draw_2 : decode b_St_draw 2 = .ok (.if_icmp .ge 5, 3) := by decide +kernel
theorem d_St_draw_5 : decode b_St_draw 5 = .ok (.iconst 0, 1) := by decide +kernel
theorem d_St_draw_6 : decode b_St_draw 6 = .ok (.ireturn, 1) := by decide +kernel
theorem d_St_draw_7 : decode b_St_draw 7 = .ok (.ldc2_w 107, 3) := by decide +kernel
theorem d_St_draw_10 : decode b_St_draw 10 = .ok (.iload_n 1, 1) := by decide +kernel
theorem d_St_draw_11 : decode b_St_draw 11 = .ok (.i2l, 1) := by decide +kernel
theorem d_St_draw_12 : decode b_St_draw 12 = .ok (.ldiv, 1) := by decide +kernel
theorem d_St_draw_13 : decode b_St_draw 13 = .ok (.iload_n 1, 1) := by decide +kernel
theorem d_St_draw_14 : decode b_St_draw 14 = .ok (.i2l, 1) := by decide +kernel
theorem d_St_draw_15 : decode b_St_draw 15 = .ok (.lmul, 1) := by decide +kernel
theorem d_St_draw_16 : decode b_St_draw 16 = .ok (.lstore_n 2, 1) := by decide +kernel
theorem d_St_draw_17 : decode b_St_draw 17 = .ok (.iconst 0, 1) := by decide +kernel
theorem d_St_draw_18 : decode b_St_draw 18 = .ok (.istore 4, 2) := by decide +kernel
theorem d_St_draw_20 : decode b_St_draw 20 = .ok (.iload 4, 2) := by decide +kernel
theorem d_St_draw_22 : decode b_St_draw 22 = .ok (.ldc 109, 2) := by decide +kernel
theorem d_St_draw_24 : decode b_St_draw 24 = .ok (.if_icmp .ge 80, 3) := by decide +kernel
theorem d_St_draw_27 : decode b_St_draw 27 = .ok (.aload_n 0, 1) := by decide +kernel
theorem d_St_draw_28 : decode b_St_draw 28 = .ok (.dup, 1) := by decide +kernel
theorem d_St_draw_29 : decode b_St_draw 29 = .ok (.getfield 28, 3) := by decide +kernel
theorem d_St_draw_32 : decode b_St_draw 32 = .ok (.aload_n 0, 1) := by decide +kernel
theorem d_St_draw_33 : decode b_St_draw 33 = .ok (.getfield 28, 3) := by decide +kernel
theorem d_St_draw_36 : decode b_St_draw 36 = .ok (.bipush 13, 2) := by decide +kernel
theorem d_St_draw_38 : decode b_St_draw 38 = .ok (.lshl, 1) := by decide +kernel
theorem d_St_draw_39 : decode b_St_draw 39 = .ok (.lxor, 1) := by decide +kernel
theorem d_St_draw_40 : decode b_St_draw 40 = .ok (.putfield 28, 3) := by decide +kernel
theorem d_St_draw_43 : decode b_St_draw 43 = .ok (.aload_n 0, 1) := by decide +kernel
theorem d_St_draw_44 : decode b_St_draw 44 = .ok (.dup, 1) := by decide +kernel
theorem d_St_draw_45 : decode b_St_draw 45 = .ok (.getfield 28, 3) := by decide +kernel
theorem d_St_draw_48 : decode b_St_draw 48 = .ok (.aload_n 0, 1) := by decide +kernel
theorem d_St_draw_49 : decode b_St_draw 49 = .ok (.getfield 28, 3) := by decide +kernel
theorem d_St_draw_52 : decode b_St_draw 52 = .ok (.bipush 7, 2) := by decide +kernel
theorem d_St_draw_54 : decode b_St_draw 54 = .ok (.lushr, 1) := by decide +kernel
theorem d_St_draw_55 : decode b_St_draw 55 = .ok (.lxor, 1) := by decide +kernel
theorem d_St_draw_56 : decode b_St_draw 56 = .ok (.putfield 28, 3) := by decide +kernel
theorem d_St_draw_59 : decode b_St_draw 59 = .ok (.aload_n 0, 1) := by decide +kernel
theorem d_St_draw_60 : decode b_St_draw 60 = .ok (.dup, 1) := by decide +kernel
theorem d_St_draw_61 : decode b_St_draw 61 = .ok (.getfield 28, 3) := by decide +kernel
theorem d_St_draw_64 : decode b_St_draw 64 = .ok (.aload_n 0, 1) := by decide +kernel
theorem d_St_draw_65 : decode b_St_draw 65 = .ok (.getfield 28, 3) := by decide +kernel
theorem d_St_draw_68 : decode b_St_draw 68 = .ok (.bipush 17, 2) := by decide +kernel
theorem d_St_draw_70 : decode b_St_draw 70 = .ok (.lshl, 1) := by decide +kernel
theorem d_St_draw_71 : decode b_St_draw 71 = .ok (.lxor, 1) := by decide +kernel
theorem d_St_draw_72 : decode b_St_draw 72 = .ok (.putfield 28, 3) := by decide +kernel
theorem d_St_draw_75 : decode b_St_draw 75 = .ok (.aload_n 0, 1) := by decide +kernel
theorem d_St_draw_76 : decode b_St_draw 76 = .ok (.getfield 28, 3) := by decide +kernel
theorem d_St_draw_79 : decode b_St_draw 79 = .ok (.bipush 33, 2) := by decide +kernel
theorem d_St_draw_81 : decode b_St_draw 81 = .ok (.lushr, 1) := by decide +kernel
theorem d_St_draw_82 : decode b_St_draw 82 = .ok (.lstore 5, 2) := by decide +kernel
theorem d_St_draw_84 : decode b_St_draw 84 = .ok (.lload 5, 2) := by decide +kernel
theorem d_St_draw_86 : decode b_St_draw 86 = .ok (.lload_n 2, 1) := by decide +kernel
theorem d_St_draw_87 : decode b_St_draw 87 = .ok (.lcmp, 1) := by decide +kernel
theorem d_St_draw_88 : decode b_St_draw 88 = .ok (.ifCond .ge 10, 3) := by decide +kernel
theorem d_St_draw_91 : decode b_St_draw 91 = .ok (.lload 5, 2) := by decide +kernel
theorem d_St_draw_93 : decode b_St_draw 93 = .ok (.iload_n 1, 1) := by decide +kernel
theorem d_St_draw_94 : decode b_St_draw 94 = .ok (.i2l, 1) := by decide +kernel
theorem d_St_draw_95 : decode b_St_draw 95 = .ok (.lrem, 1) := by decide +kernel
theorem d_St_draw_96 : decode b_St_draw 96 = .ok (.l2i, 1) := by decide +kernel
theorem d_St_draw_97 : decode b_St_draw 97 = .ok (.ireturn, 1) := by decide +kernel
theorem d_St_draw_98 : decode b_St_draw 98 = .ok (.iinc 4 1, 3) := by decide +kernel
theorem d_St_draw_101 : decode b_St_draw 101 = .ok (.goto (-81), 3) := by decide +kernel
theorem d_St_draw_104 : decode b_St_draw 104 = .ok (.iconst 0, 1) := by decide +kernel
theorem d_St_draw_105 : decode b_St_draw 105 = .ok (.ireturn, 1) := by decide +kernel
end
section
theorem d_TD_init_0 : decode b_TD_init 0 = .ok (.aload_n 0, 1) := by decide +kernel
theorem d_TD_init_1 : decode b_TD_init 1 = .ok (.invokespecial 1, 3) := by decide +kernel
theorem d_TD_init_4 : decode b_TD_init 4 = .ok (.aload_n 0, 1) := by decide +kernel
theorem d_TD_init_5 : decode b_TD_init 5 = .ok (.new 7, 3) := by decide +kernel
theorem d_TD_init_8 : decode b_TD_init 8 = .ok (.dup, 1) := by decide +kernel
theorem d_TD_init_9 : decode b_TD_init 9 = .ok (.invokespecial 9, 3) := by decide +kernel
theorem d_TD_init_12 : decode b_TD_init 12 = .ok (.putfield 10, 3) := by decide +kernel
theorem d_TD_init_15 : decode b_TD_init 15 = .ok (.aload_n 0, 1) := by decide +kernel
theorem d_TD_init_16 : decode b_TD_init 16 = .ok (.new 16, 3) := by decide +kernel
theorem d_TD_init_19 : decode b_TD_init 19 = .ok (.dup, 1) := by decide +kernel
theorem d_TD_init_20 : decode b_TD_init 20 = .ok (.invokespecial 18, 3) := by decide +kernel
theorem d_TD_init_23 : decode b_TD_init 23 = .ok (.putfield 19, 3) := by decide +kernel
theorem d_TD_init_26 : decode b_TD_init 26 = .ok (.aload_n 0, 1) := by decide +kernel
theorem d_TD_init_27 : decode b_TD_init 27 = .ok (.new 23, 3) := by decide +kernel
theorem d_TD_init_30 : decode b_TD_init 30 = .ok (.dup, 1) := by decide +kernel
theorem d_TD_init_31 : decode b_TD_init 31 = .ok (.invokespecial 25, 3) := by decide +kernel
theorem d_TD_init_34 : decode b_TD_init 34 = .ok (.putfield 26, 3) := by decide +kernel
theorem d_TD_init_37 : decode b_TD_init 37 = .ok (.aload_n 0, 1) := by decide +kernel
theorem d_TD_init_38 : decode b_TD_init 38 = .ok (.bipush 10, 2) := by decide +kernel
theorem d_TD_init_40 : decode b_TD_init 40 = .ok (.anewarray 30, 3) := by decide +kernel
theorem d_TD_init_43 : decode b_TD_init 43 = .ok (.putfield 32, 3) := by decide +kernel
theorem d_TD_init_46 : decode b_TD_init 46 = .ok (.aload_n 0, 1) := by decide +kernel
theorem d_TD_init_47 : decode b_TD_init 47 = .ok (.bipush 8, 2) := by decide +kernel
theorem d_TD_init_49 : decode b_TD_init 49 = .ok (.anewarray 36, 3) := by decide +kernel
theorem d_TD_init_52 : decode b_TD_init 52 = .ok (.putfield 38, 3) := by decide +kernel
theorem d_TD_init_55 : decode b_TD_init 55 = .ok (.aload_n 0, 1) := by decide +kernel
theorem d_TD_init_56 : decode b_TD_init 56 = .ok (.bipush 24, 2) := by decide +kernel
theorem d_TD_init_58 : decode b_TD_init 58 = .ok (.newarray .int, 2) := by decide +kernel
theorem d_TD_init_60 : decode b_TD_init 60 = .ok (.putfield 42, 3) := by decide +kernel
theorem d_TD_init_63 : decode b_TD_init 63 = .ok (.iconst 0, 1) := by decide +kernel
theorem d_TD_init_64 : decode b_TD_init 64 = .ok (.istore_n 1, 1) := by decide +kernel
theorem d_TD_init_65 : decode b_TD_init 65 = .ok (.iload_n 1, 1) := by decide +kernel
theorem d_TD_init_66 : decode b_TD_init 66 = .ok (.aload_n 0, 1) := by decide +kernel
theorem d_TD_init_67 : decode b_TD_init 67 = .ok (.getfield 38, 3) := by decide +kernel
theorem d_TD_init_70 : decode b_TD_init 70 = .ok (.arraylength, 1) := by decide +kernel
theorem d_TD_init_71 : decode b_TD_init 71 = .ok (.if_icmp .ge 27, 3) := by decide +kernel
theorem d_TD_init_74 : decode b_TD_init 74 = .ok (.aload_n 0, 1) := by decide +kernel
theorem d_TD_init_75 : decode b_TD_init 75 = .ok (.getfield 38, 3) := by decide +kernel
theorem d_TD_init_78 : decode b_TD_init 78 = .ok (.iload_n 1, 1) := by decide +kernel
theorem d_TD_init_79 : decode b_TD_init 79 = .ok (.new 36, 3) := by decide +kernel
theorem d_TD_init_82 : decode b_TD_init 82 = .ok (.dup, 1) := by decide +kernel
theorem d_TD_init_83 : decode b_TD_init 83 = .ok (.aload_n 0, 1) := by decide +kernel
theorem d_TD_init_84 : decode b_TD_init 84 = .ok (.getfield 10, 3) := by decide +kernel
theorem d_TD_init_87 : decode b_TD_init 87 = .ok (.iload_n 1, 1) := by decide +kernel
theorem d_TD_init_88 : decode b_TD_init 88 = .ok (.invokespecial 46, 3) := by decide +kernel
theorem d_TD_init_91 : decode b_TD_init 91 = .ok (.aastore, 1) := by decide +kernel
theorem d_TD_init_92 : decode b_TD_init 92 = .ok (.iinc 1 1, 3) := by decide +kernel
theorem d_TD_init_95 : decode b_TD_init 95 = .ok (.goto (-30), 3) := by decide +kernel
theorem d_TD_init_98 : decode b_TD_init 98 = .ok (.return_, 1) := by decide +kernel
theorem d_TD_arms_0 : decode b_TD_arms 0 = .ok (.iload_n 1, 1) := by decide +kernel
theorem d_TD_arms_1 : decode b_TD_arms 1 = .ok (.iload_n 2, 1) := by decide +kernel
theorem d_TD_arms_2 : decode b_TD_arms 2 = .ok (.iload_n 3, 1) := by decide +kernel
theorem d_TD_arms_3 : decode b_TD_arms 3 = .ok (.iload 4, 2) := by decide +kernel
theorem d_TD_arms_5 : decode b_TD_arms 5 = .ok (.invokestatic 49, 3) := by decide +kernel
theorem d_TD_arms_8 : decode b_TD_arms 8 = .ok (.ifCond .eq 19, 3) := by decide +kernel
theorem d_TD_arms_11 : decode b_TD_arms 11 = .ok (.iload 5, 2) := by decide +kernel
theorem d_TD_arms_13 : decode b_TD_arms 13 = .ok (.iload_n 1, 1) := by decide +kernel
theorem d_TD_arms_14 : decode b_TD_arms 14 = .ok (.iload_n 2, 1) := by decide +kernel
theorem d_TD_arms_15 : decode b_TD_arms 15 = .ok (.iadd, 1) := by decide +kernel
theorem d_TD_arms_16 : decode b_TD_arms 16 = .ok (.iload_n 3, 1) := by decide +kernel
theorem d_TD_arms_17 : decode b_TD_arms 17 = .ok (.iadd, 1) := by decide +kernel
theorem d_TD_arms_18 : decode b_TD_arms 18 = .ok (.iload 4, 2) := by decide +kernel
theorem d_TD_arms_20 : decode b_TD_arms 20 = .ok (.iadd, 1) := by decide +kernel
theorem d_TD_arms_21 : decode b_TD_arms 21 = .ok (.invokestatic 53, 3) := by decide +kernel
theorem d_TD_arms_24 : decode b_TD_arms 24 = .ok (.ifCond .ne 11, 3) := by decide +kernel
theorem d_TD_arms_27 : decode b_TD_arms 27 = .ok (.new 57, 3) := by decide +kernel
theorem d_TD_arms_30 : decode b_TD_arms 30 = .ok (.dup, 1) := by decide +kernel
theorem d_TD_arms_31 : decode b_TD_arms 31 = .ok (.invokespecial 59, 3) := by decide +kernel
theorem d_TD_arms_34 : decode b_TD_arms 34 = .ok (.athrow, 1) := by decide +kernel
theorem d_TD_arms_35 : decode b_TD_arms 35 = .ok (.aload_n 0, 1) := by decide +kernel
theorem d_TD_arms_36 : decode b_TD_arms 36 = .ok (.invokevirtual 60, 3) := by decide +kernel
theorem d_TD_arms_39 : decode b_TD_arms 39 = .ok (.ifCond .eq 11, 3) := by decide +kernel
theorem d_TD_arms_42 : decode b_TD_arms 42 = .ok (.new 64, 3) := by decide +kernel
theorem d_TD_arms_45 : decode b_TD_arms 45 = .ok (.dup, 1) := by decide +kernel
theorem d_TD_arms_46 : decode b_TD_arms 46 = .ok (.invokespecial 66, 3) := by decide +kernel
theorem d_TD_arms_49 : decode b_TD_arms 49 = .ok (.athrow, 1) := by decide +kernel
theorem d_TD_arms_50 : decode b_TD_arms 50 = .ok (.aload_n 0, 1) := by decide +kernel
theorem d_TD_arms_51 : decode b_TD_arms 51 = .ok (.getfield 19, 3) := by decide +kernel
theorem d_TD_arms_54 : decode b_TD_arms 54 = .ok (.getfield 67, 3) := by decide +kernel
theorem d_TD_arms_57 : decode b_TD_arms 57 = .ok (.ifCond .ne 13, 3) := by decide +kernel
theorem d_TD_arms_60 : decode b_TD_arms 60 = .ok (.aload_n 0, 1) := by decide +kernel
theorem d_TD_arms_61 : decode b_TD_arms 61 = .ok (.getfield 19, 3) := by decide +kernel
theorem d_TD_arms_64 : decode b_TD_arms 64 = .ok (.invokevirtual 71, 3) := by decide +kernel
theorem d_TD_arms_67 : decode b_TD_arms 67 = .ok (.ifCond .ne 4, 3) := by decide +kernel
theorem d_TD_arms_70 : decode b_TD_arms 70 = .ok (.return_, 1) := by decide +kernel
theorem d_TD_arms_71 : decode b_TD_arms 71 = .ok (.aload_n 0, 1) := by decide +kernel
theorem d_TD_arms_72 : decode b_TD_arms 72 = .ok (.getfield 10, 3) := by decide +kernel
theorem d_TD_arms_75 : decode b_TD_arms 75 = .ok (.iload_n 1, 1) := by decide +kernel
theorem d_TD_arms_76 : decode b_TD_arms 76 = .ok (.iload_n 2, 1) := by decide +kernel
theorem d_TD_arms_77 : decode b_TD_arms 77 = .ok (.iload_n 3, 1) := by decide +kernel
theorem d_TD_arms_78 : decode b_TD_arms 78 = .ok (.iload 4, 2) := by decide +kernel
theorem d_TD_arms_80 : decode b_TD_arms 80 = .ok (.iload 5, 2) := by decide +kernel
theorem d_TD_arms_82 : decode b_TD_arms 82 = .ok (.invokevirtual 74, 3) := by decide +kernel
theorem d_TD_arms_85 : decode b_TD_arms 85 = .ok (.iconst 0, 1) := by decide +kernel
theorem d_TD_arms_86 : decode b_TD_arms 86 = .ok (.istore 8, 2) := by decide +kernel
theorem d_TD_arms_88 : decode b_TD_arms 88 = .ok (.iload 8, 2) := by decide +kernel
theorem d_TD_arms_90 : decode b_TD_arms 90 = .ok (.aload_n 0, 1) := by decide +kernel
theorem d_TD_arms_91 : decode b_TD_arms 91 = .ok (.getfield 38, 3) := by decide +kernel
theorem d_TD_arms_94 : decode b_TD_arms 94 = .ok (.arraylength, 1) := by decide +kernel
theorem d_TD_arms_95 : decode b_TD_arms 95 = .ok (.if_icmp .ge 20, 3) := by decide +kernel
theorem d_TD_arms_98 : decode b_TD_arms 98 = .ok (.aload_n 0, 1) := by decide +kernel
theorem d_TD_arms_99 : decode b_TD_arms 99 = .ok (.iload 8, 2) := by decide +kernel
theorem d_TD_arms_101 : decode b_TD_arms 101 = .ok (.invokevirtual 78, 3) := by decide +kernel
theorem d_TD_arms_104 : decode b_TD_arms 104 = .ok (.lload 6, 2) := by decide +kernel
theorem d_TD_arms_106 : decode b_TD_arms 106 = .ok (.invokevirtual 82, 3) := by decide +kernel
theorem d_TD_arms_109 : decode b_TD_arms 109 = .ok (.iinc 8 1, 3) := by decide +kernel
theorem d_TD_arms_112 : decode b_TD_arms 112 = .ok (.goto (-24), 3) := by decide +kernel
theorem d_TD_arms_115 : decode b_TD_arms 115 = .ok (.return_, 1) := by decide +kernel
theorem d_TD_site_0 : decode b_TD_site 0 = .ok (.iload_n 1, 1) := by decide +kernel
theorem d_TD_site_1 : decode b_TD_site 1 = .ok (.ifCond .lt 12, 3) := by decide +kernel
theorem d_TD_site_4 : decode b_TD_site 4 = .ok (.iload_n 1, 1) := by decide +kernel
theorem d_TD_site_5 : decode b_TD_site 5 = .ok (.aload_n 0, 1) := by decide +kernel
theorem d_TD_site_6 : decode b_TD_site 6 = .ok (.getfield 32, 3) := by decide +kernel
theorem d_TD_site_9 : decode b_TD_site 9 = .ok (.arraylength, 1) := by decide +kernel
theorem d_TD_site_10 : decode b_TD_site 10 = .ok (.if_icmp .lt 11, 3) := by decide +kernel
theorem d_TD_site_13 : decode b_TD_site 13 = .ok (.new 86, 3) := by decide +kernel
theorem d_TD_site_16 : decode b_TD_site 16 = .ok (.dup, 1) := by decide +kernel
theorem d_TD_site_17 : decode b_TD_site 17 = .ok (.invokespecial 88, 3) := by decide +kernel
theorem d_TD_site_20 : decode b_TD_site 20 = .ok (.athrow, 1) := by decide +kernel
theorem d_TD_site_21 : decode b_TD_site 21 = .ok (.aload_n 0, 1) := by decide +kernel
theorem d_TD_site_22 : decode b_TD_site 22 = .ok (.getfield 32, 3) := by decide +kernel
theorem d_TD_site_25 : decode b_TD_site 25 = .ok (.iload_n 1, 1) := by decide +kernel
theorem d_TD_site_26 : decode b_TD_site 26 = .ok (.aaload, 1) := by decide +kernel
theorem d_TD_site_27 : decode b_TD_site 27 = .ok (.ifnull 11, 3) := by decide +kernel
theorem d_TD_site_30 : decode b_TD_site 30 = .ok (.new 57, 3) := by decide +kernel
theorem d_TD_site_33 : decode b_TD_site 33 = .ok (.dup, 1) := by decide +kernel
theorem d_TD_site_34 : decode b_TD_site 34 = .ok (.invokespecial 59, 3) := by decide +kernel
theorem d_TD_site_37 : decode b_TD_site 37 = .ok (.athrow, 1) := by decide +kernel
theorem d_TD_site_38 : decode b_TD_site 38 = .ok (.aload_n 0, 1) := by decide +kernel
theorem d_TD_site_39 : decode b_TD_site 39 = .ok (.getfield 19, 3) := by decide +kernel
theorem d_TD_site_42 : decode b_TD_site 42 = .ok (.getfield 67, 3) := by decide +kernel
theorem d_TD_site_45 : decode b_TD_site 45 = .ok (.ifCond .ne 13, 3) := by decide +kernel
theorem d_TD_site_48 : decode b_TD_site 48 = .ok (.aload_n 0, 1) := by decide +kernel
theorem d_TD_site_49 : decode b_TD_site 49 = .ok (.getfield 19, 3) := by decide +kernel
theorem d_TD_site_52 : decode b_TD_site 52 = .ok (.invokevirtual 71, 3) := by decide +kernel
theorem d_TD_site_55 : decode b_TD_site 55 = .ok (.ifCond .ne 6, 3) := by decide +kernel
theorem d_TD_site_58 : decode b_TD_site 58 = .ok (.bipush (-2), 2) := by decide +kernel
theorem d_TD_site_60 : decode b_TD_site 60 = .ok (.ireturn, 1) := by decide +kernel
theorem d_TD_site_61 : decode b_TD_site 61 = .ok (.aload_n 0, 1) := by decide +kernel
theorem d_TD_site_62 : decode b_TD_site 62 = .ok (.getfield 32, 3) := by decide +kernel
theorem d_TD_site_65 : decode b_TD_site 65 = .ok (.iload_n 1, 1) := by decide +kernel
theorem d_TD_site_66 : decode b_TD_site 66 = .ok (.new 30, 3) := by decide +kernel
theorem d_TD_site_69 : decode b_TD_site 69 = .ok (.dup, 1) := by decide +kernel
theorem d_TD_site_70 : decode b_TD_site 70 = .ok (.invokespecial 89, 3) := by decide +kernel
theorem d_TD_site_73 : decode b_TD_site 73 = .ok (.aastore, 1) := by decide +kernel
theorem d_TD_site_74 : decode b_TD_site 74 = .ok (.aload_n 0, 1) := by decide +kernel
theorem d_TD_site_75 : decode b_TD_site 75 = .ok (.dup, 1) := by decide +kernel
theorem d_TD_site_76 : decode b_TD_site 76 = .ok (.getfield 90, 3) := by decide +kernel
theorem d_TD_site_79 : decode b_TD_site 79 = .ok (.iconst 1, 1) := by decide +kernel
theorem d_TD_site_80 : decode b_TD_site 80 = .ok (.iadd, 1) := by decide +kernel
theorem d_TD_site_81 : decode b_TD_site 81 = .ok (.putfield 90, 3) := by decide +kernel
theorem d_TD_site_84 : decode b_TD_site 84 = .ok (.aload_n 0, 1) := by decide +kernel
theorem d_TD_site_85 : decode b_TD_site 85 = .ok (.getfield 90, 3) := by decide +kernel
theorem d_TD_site_88 : decode b_TD_site 88 = .ok (.ireturn, 1) := by decide +kernel
theorem d_TD_kits_0 : decode b_TD_kits 0 = .ok (.aload_n 0, 1) := by decide +kernel
theorem d_TD_kits_1 : decode b_TD_kits 1 = .ok (.iload_n 1, 1) := by decide +kernel
theorem d_TD_kits_2 : decode b_TD_kits 2 = .ok (.invokevirtual 94, 3) := by decide +kernel
theorem d_TD_kits_5 : decode b_TD_kits 5 = .ok (.astore 5, 2) := by decide +kernel
theorem d_TD_kits_7 : decode b_TD_kits 7 = .ok (.aload_n 0, 1) := by decide +kernel
theorem d_TD_kits_8 : decode b_TD_kits 8 = .ok (.iload_n 2, 1) := by decide +kernel
theorem d_TD_kits_9 : decode b_TD_kits 9 = .ok (.invokevirtual 98, 3) := by decide +kernel
theorem d_TD_kits_12 : decode b_TD_kits 12 = .ok (.iload_n 3, 1) := by decide +kernel
theorem d_TD_kits_13 : decode b_TD_kits 13 = .ok (.invokestatic 102, 3) := by decide +kernel
theorem d_TD_kits_16 : decode b_TD_kits 16 = .ok (.iload_n 3, 1) := by decide +kernel
theorem d_TD_kits_17 : decode b_TD_kits 17 = .ok (.i2l, 1) := by decide +kernel
theorem d_TD_kits_18 : decode b_TD_kits 18 = .ok (.iload 4, 2) := by decide +kernel
theorem d_TD_kits_20 : decode b_TD_kits 20 = .ok (.i2l, 1) := by decide +kernel
theorem d_TD_kits_21 : decode b_TD_kits 21 = .ok (.ladd, 1) := by decide +kernel
theorem d_TD_kits_22 : decode b_TD_kits 22 = .ok (.ldc2_w 105, 3) := by decide +kernel
theorem d_TD_kits_25 : decode b_TD_kits 25 = .ok (.lcmp, 1) := by decide +kernel
theorem d_TD_kits_26 : decode b_TD_kits 26 = .ok (.ifCond .le 11, 3) := by decide +kernel
theorem d_TD_kits_29 : decode b_TD_kits 29 = .ok (.new 86, 3) := by decide +kernel
theorem d_TD_kits_32 : decode b_TD_kits 32 = .ok (.dup, 1) := by decide +kernel
theorem d_TD_kits_33 : decode b_TD_kits 33 = .ok (.invokespecial 88, 3) := by decide +kernel
theorem d_TD_kits_36 : decode b_TD_kits 36 = .ok (.athrow, 1) := by decide +kernel
theorem d_TD_kits_37 : decode b_TD_kits 37 = .ok (.aload_n 0, 1) := by decide +kernel
theorem d_TD_kits_38 : decode b_TD_kits 38 = .ok (.invokevirtual 107, 3) := by decide +kernel
theorem d_TD_kits_41 : decode b_TD_kits 41 = .ok (.iload 4, 2) := by decide +kernel
theorem d_TD_kits_43 : decode b_TD_kits 43 = .ok (.iconst 1, 1) := by decide +kernel
theorem d_TD_kits_44 : decode b_TD_kits 44 = .ok (.if_icmp .lt 10, 3) := by decide +kernel
theorem d_TD_kits_47 : decode b_TD_kits 47 = .ok (.iload 4, 2) := by decide +kernel
theorem d_TD_kits_49 : decode b_TD_kits 49 = .ok (.bipush 50, 2) := by decide +kernel
theorem d_TD_kits_51 : decode b_TD_kits 51 = .ok (.if_icmp .le 11, 3) := by decide +kernel
theorem d_TD_kits_54 : decode b_TD_kits 54 = .ok (.new 57, 3) := by decide +kernel
theorem d_TD_kits_57 : decode b_TD_kits 57 = .ok (.dup, 1) := by decide +kernel
theorem d_TD_kits_58 : decode b_TD_kits 58 = .ok (.invokespecial 59, 3) := by decide +kernel
theorem d_TD_kits_61 : decode b_TD_kits 61 = .ok (.athrow, 1) := by decide +kernel
theorem d_TD_kits_62 : decode b_TD_kits 62 = .ok (.aload_n 0, 1) := by decide +kernel
theorem d_TD_kits_63 : decode b_TD_kits 63 = .ok (.getfield 19, 3) := by decide +kernel
theorem d_TD_kits_66 : decode b_TD_kits 66 = .ok (.getfield 67, 3) := by decide +kernel
theorem d_TD_kits_69 : decode b_TD_kits 69 = .ok (.ifCond .eq 6, 3) := by decide +kernel
theorem d_TD_kits_72 : decode b_TD_kits 72 = .ok (.bipush (-2), 2) := by decide +kernel
theorem d_TD_kits_74 : decode b_TD_kits 74 = .ok (.ireturn, 1) := by decide +kernel
theorem d_TD_kits_75 : decode b_TD_kits 75 = .ok (.aload 5, 2) := by decide +kernel
theorem d_TD_kits_77 : decode b_TD_kits 77 = .ok (.getfield 110, 3) := by decide +kernel
theorem d_TD_kits_80 : decode b_TD_kits 80 = .ok (.ifCond .eq 6, 3) := by decide +kernel
theorem d_TD_kits_83 : decode b_TD_kits 83 = .ok (.bipush (-4), 2) := by decide +kernel
theorem d_TD_kits_85 : decode b_TD_kits 85 = .ok (.ireturn, 1) := by decide +kernel
theorem d_TD_kits_86 : decode b_TD_kits 86 = .ok (.aload_n 0, 1) := by decide +kernel
theorem d_TD_kits_87 : decode b_TD_kits 87 = .ok (.getfield 26, 3) := by decide +kernel
theorem d_TD_kits_90 : decode b_TD_kits 90 = .ok (.iload_n 3, 1) := by decide +kernel
theorem d_TD_kits_91 : decode b_TD_kits 91 = .ok (.iload 4, 2) := by decide +kernel
theorem d_TD_kits_93 : decode b_TD_kits 93 = .ok (.invokevirtual 113, 3) := by decide +kernel
theorem d_TD_kits_96 : decode b_TD_kits 96 = .ok (.ifCond .eq 6, 3) := by decide +kernel
theorem d_TD_kits_99 : decode b_TD_kits 99 = .ok (.bipush (-5), 2) := by decide +kernel
theorem d_TD_kits_101 : decode b_TD_kits 101 = .ok (.ireturn, 1) := by decide +kernel
theorem d_TD_kits_102 : decode b_TD_kits 102 = .ok (.aload_n 0, 1) := by decide +kernel
theorem d_TD_kits_103 : decode b_TD_kits 103 = .ok (.getfield 19, 3) := by decide +kernel
theorem d_TD_kits_106 : decode b_TD_kits 106 = .ok (.invokevirtual 71, 3) := by decide +kernel
theorem d_TD_kits_109 : decode b_TD_kits 109 = .ok (.ifCond .ne 6, 3) := by decide +kernel
theorem d_TD_kits_112 : decode b_TD_kits 112 = .ok (.bipush (-2), 2) := by decide +kernel
theorem d_TD_kits_114 : decode b_TD_kits 114 = .ok (.ireturn, 1) := by decide +kernel
theorem d_TD_kits_115 : decode b_TD_kits 115 = .ok (.aload_n 0, 1) := by decide +kernel
theorem d_TD_kits_116 : decode b_TD_kits 116 = .ok (.getfield 26, 3) := by decide +kernel
theorem d_TD_kits_119 : decode b_TD_kits 119 = .ok (.iload_n 1, 1) := by decide +kernel
theorem d_TD_kits_120 : decode b_TD_kits 120 = .ok (.iload_n 2, 1) := by decide +kernel
theorem d_TD_kits_121 : decode b_TD_kits 121 = .ok (.iload_n 3, 1) := by decide +kernel
theorem d_TD_kits_122 : decode b_TD_kits 122 = .ok (.iload 4, 2) := by decide +kernel
theorem d_TD_kits_124 : decode b_TD_kits 124 = .ok (.invokevirtual 116, 3) := by decide +kernel
theorem d_TD_kits_127 : decode b_TD_kits 127 = .ok (.aload_n 0, 1) := by decide +kernel
theorem d_TD_kits_128 : decode b_TD_kits 128 = .ok (.getfield 26, 3) := by decide +kernel
theorem d_TD_kits_131 : decode b_TD_kits 131 = .ok (.iload_n 1, 1) := by decide +kernel
theorem d_TD_kits_132 : decode b_TD_kits 132 = .ok (.iload_n 2, 1) := by decide +kernel
theorem d_TD_kits_133 : decode b_TD_kits 133 = .ok (.invokevirtual 120, 3) := by decide +kernel
theorem d_TD_kits_136 : decode b_TD_kits 136 = .ok (.ireturn, 1) := by decide +kernel
theorem d_TD_allot_0 : decode b_TD_allot 0 = .ok (.aload_n 0, 1) := by decide +kernel
theorem d_TD_allot_1 : decode b_TD_allot 1 = .ok (.iload_n 1, 1) := by decide +kernel
theorem d_TD_allot_2 : decode b_TD_allot 2 = .ok (.invokevirtual 94, 3) := by decide +kernel
theorem d_TD_allot_5 : decode b_TD_allot 5 = .ok (.astore 4, 2) := by decide +kernel
theorem d_TD_allot_7 : decode b_TD_allot 7 = .ok (.aload_n 0, 1) := by decide +kernel
theorem d_TD_allot_8 : decode b_TD_allot 8 = .ok (.iload_n 2, 1) := by decide +kernel
theorem d_TD_allot_9 : decode b_TD_allot 9 = .ok (.invokevirtual 78, 3) := by decide +kernel
theorem d_TD_allot_12 : decode b_TD_allot 12 = .ok (.astore 5, 2) := by decide +kernel
theorem d_TD_allot_14 : decode b_TD_allot 14 = .ok (.iload_n 3, 1) := by decide +kernel
theorem d_TD_allot_15 : decode b_TD_allot 15 = .ok (.invokestatic 124, 3) := by decide +kernel
theorem d_TD_allot_18 : decode b_TD_allot 18 = .ok (.aload_n 0, 1) := by decide +kernel
theorem d_TD_allot_19 : decode b_TD_allot 19 = .ok (.invokevirtual 107, 3) := by decide +kernel
theorem d_TD_allot_22 : decode b_TD_allot 22 = .ok (.aload_n 0, 1) := by decide +kernel
theorem d_TD_allot_23 : decode b_TD_allot 23 = .ok (.getfield 19, 3) := by decide +kernel
theorem d_TD_allot_26 : decode b_TD_allot 26 = .ok (.getfield 67, 3) := by decide +kernel
theorem d_TD_allot_29 : decode b_TD_allot 29 = .ok (.ifCond .eq 6, 3) := by decide +kernel
theorem d_TD_allot_32 : decode b_TD_allot 32 = .ok (.bipush (-2), 2) := by decide +kernel
theorem d_TD_allot_34 : decode b_TD_allot 34 = .ok (.ireturn, 1) := by decide +kernel
theorem d_TD_allot_35 : decode b_TD_allot 35 = .ok (.aload_n 0, 1) := by decide +kernel
theorem d_TD_allot_36 : decode b_TD_allot 36 = .ok (.getfield 127, 3) := by decide +kernel
theorem d_TD_allot_39 : decode b_TD_allot 39 = .ok (.ifCond .eq 6, 3) := by decide +kernel
theorem d_TD_allot_42 : decode b_TD_allot 42 = .ok (.bipush (-3), 2) := by decide +kernel
theorem d_TD_allot_44 : decode b_TD_allot 44 = .ok (.ireturn, 1) := by decide +kernel
theorem d_TD_allot_45 : decode b_TD_allot 45 = .ok (.aload 4, 2) := by decide +kernel
theorem d_TD_allot_47 : decode b_TD_allot 47 = .ok (.getfield 110, 3) := by decide +kernel
theorem d_TD_allot_50 : decode b_TD_allot 50 = .ok (.ifCond .eq 6, 3) := by decide +kernel
theorem d_TD_allot_53 : decode b_TD_allot 53 = .ok (.bipush (-4), 2) := by decide +kernel
theorem d_TD_allot_55 : decode b_TD_allot 55 = .ok (.ireturn, 1) := by decide +kernel
theorem d_TD_allot_56 : decode b_TD_allot 56 = .ok (.aload 4, 2) := by decide +kernel
theorem d_TD_allot_58 : decode b_TD_allot 58 = .ok (.iload_n 3, 1) := by decide +kernel
theorem d_TD_allot_59 : decode b_TD_allot 59 = .ok (.invokevirtual 130, 3) := by decide +kernel
theorem d_TD_allot_62 : decode b_TD_allot 62 = .ok (.ifCond .eq 6, 3) := by decide +kernel
theorem d_TD_allot_65 : decode b_TD_allot 65 = .ok (.bipush (-5), 2) := by decide +kernel
theorem d_TD_allot_67 : decode b_TD_allot 67 = .ok (.ireturn, 1) := by decide +kernel
theorem d_TD_allot_68 : decode b_TD_allot 68 = .ok (.aload 5, 2) := by decide +kernel
theorem d_TD_allot_70 : decode b_TD_allot 70 = .ok (.invokevirtual 134, 3) := by decide +kernel
theorem d_TD_allot_73 : decode b_TD_allot 73 = .ok (.istore 6, 2) := by decide +kernel
theorem d_TD_allot_75 : decode b_TD_allot 75 = .ok (.aload_n 0, 1) := by decide +kernel
theorem d_TD_allot_76 : decode b_TD_allot 76 = .ok (.getfield 26, 3) := by decide +kernel
theorem d_TD_allot_79 : decode b_TD_allot 79 = .ok (.iload_n 1, 1) := by decide +kernel
theorem d_TD_allot_80 : decode b_TD_allot 80 = .ok (.iload 6, 2) := by decide +kernel
theorem d_TD_allot_82 : decode b_TD_allot 82 = .ok (.iconst 0, 1) := by decide +kernel
theorem d_TD_allot_83 : decode b_TD_allot 83 = .ok (.invokevirtual 138, 3) := by decide +kernel
theorem d_TD_allot_86 : decode b_TD_allot 86 = .ok (.istore 7, 2) := by decide +kernel
theorem d_TD_allot_88 : decode b_TD_allot 88 = .ok (.iload 7, 2) := by decide +kernel
theorem d_TD_allot_90 : decode b_TD_allot 90 = .ok (.iconst (-1), 1) := by decide +kernel
theorem d_TD_allot_91 : decode b_TD_allot 91 = .ok (.if_icmp .ne 6, 3) := by decide +kernel
theorem d_TD_allot_94 : decode b_TD_allot 94 = .ok (.bipush (-6), 2) := by decide +kernel
theorem d_TD_allot_96 : decode b_TD_allot 96 = .ok (.ireturn, 1) := by decide +kernel
theorem d_TD_allot_97 : decode b_TD_allot 97 = .ok (.aload_n 0, 1) := by decide +kernel
theorem d_TD_allot_98 : decode b_TD_allot 98 = .ok (.getfield 19, 3) := by decide +kernel
theorem d_TD_allot_101 : decode b_TD_allot 101 = .ok (.invokevirtual 71, 3) := by decide +kernel
theorem d_TD_allot_104 : decode b_TD_allot 104 = .ok (.ifCond .ne 6, 3) := by decide +kernel
theorem d_TD_allot_107 : decode b_TD_allot 107 = .ok (.bipush (-2), 2) := by decide +kernel
theorem d_TD_allot_109 : decode b_TD_allot 109 = .ok (.ireturn, 1) := by decide +kernel
theorem d_TD_allot_110 : decode b_TD_allot 110 = .ok (.aload 5, 2) := by decide +kernel
theorem d_TD_allot_112 : decode b_TD_allot 112 = .ok (.invokevirtual 142, 3) := by decide +kernel
theorem d_TD_allot_115 : decode b_TD_allot 115 = .ok (.aload 5, 2) := by decide +kernel
theorem d_TD_allot_117 : decode b_TD_allot 117 = .ok (.iload 6, 2) := by decide +kernel
theorem d_TD_allot_119 : decode b_TD_allot 119 = .ok (.invokevirtual 145, 3) := by decide +kernel
theorem d_TD_allot_122 : decode b_TD_allot 122 = .ok (.aload_n 0, 1) := by decide +kernel
theorem d_TD_allot_123 : decode b_TD_allot 123 = .ok (.getfield 26, 3) := by decide +kernel
theorem d_TD_allot_126 : decode b_TD_allot 126 = .ok (.iload 7, 2) := by decide +kernel
theorem d_TD_allot_128 : decode b_TD_allot 128 = .ok (.iload_n 3, 1) := by decide +kernel
theorem d_TD_allot_129 : decode b_TD_allot 129 = .ok (.invokevirtual 148, 3) := by decide +kernel
theorem d_TD_allot_132 : decode b_TD_allot 132 = .ok (.aload 4, 2) := by decide +kernel
theorem d_TD_allot_134 : decode b_TD_allot 134 = .ok (.iload_n 3, 1) := by decide +kernel
theorem d_TD_allot_135 : decode b_TD_allot 135 = .ok (.iload_n 2, 1) := by decide +kernel
theorem d_TD_allot_136 : decode b_TD_allot 136 = .ok (.iload 6, 2) := by decide +kernel
theorem d_TD_allot_138 : decode b_TD_allot 138 = .ok (.iconst 2, 1) := by decide +kernel
theorem d_TD_allot_139 : decode b_TD_allot 139 = .ok (.invokevirtual 152, 3) := by decide +kernel
theorem d_TD_allot_142 : decode b_TD_allot 142 = .ok (.iload 7, 2) := by decide +kernel
theorem d_TD_allot_144 : decode b_TD_allot 144 = .ok (.ireturn, 1) := by decide +kernel
theorem d_TD_reserve_0 : decode b_TD_reserve 0 = .ok (.aload_n 0, 1) := by decide +kernel
theorem d_TD_reserve_1 : decode b_TD_reserve 1 = .ok (.iload_n 1, 1) := by decide +kernel
theorem d_TD_reserve_2 : decode b_TD_reserve 2 = .ok (.invokevirtual 94, 3) := by decide +kernel
theorem d_TD_reserve_5 : decode b_TD_reserve 5 = .ok (.astore_n 3, 1) := by decide +kernel
theorem d_TD_reserve_6 : decode b_TD_reserve 6 = .ok (.aload_n 0, 1) := by decide +kernel
theorem d_TD_reserve_7 : decode b_TD_reserve 7 = .ok (.iload_n 2, 1) := by decide +kernel
theorem d_TD_reserve_8 : decode b_TD_reserve 8 = .ok (.invokevirtual 78, 3) := by decide +kernel
theorem d_TD_reserve_11 : decode b_TD_reserve 11 = .ok (.astore 4, 2) := by decide +kernel
theorem d_TD_reserve_13 : decode b_TD_reserve 13 = .ok (.aload_n 0, 1) := by decide +kernel
theorem d_TD_reserve_14 : decode b_TD_reserve 14 = .ok (.invokevirtual 107, 3) := by decide +kernel
theorem d_TD_reserve_17 : decode b_TD_reserve 17 = .ok (.aload_n 0, 1) := by decide +kernel
theorem d_TD_reserve_18 : decode b_TD_reserve 18 = .ok (.getfield 19, 3) := by decide +kernel
theorem d_TD_reserve_21 : decode b_TD_reserve 21 = .ok (.getfield 67, 3) := by decide +kernel
theorem d_TD_reserve_24 : decode b_TD_reserve 24 = .ok (.ifCond .eq 6, 3) := by decide +kernel
theorem d_TD_reserve_27 : decode b_TD_reserve 27 = .ok (.bipush (-2), 2) := by decide +kernel
theorem d_TD_reserve_29 : decode b_TD_reserve 29 = .ok (.ireturn, 1) := by decide +kernel
theorem d_TD_reserve_30 : decode b_TD_reserve 30 = .ok (.aload_n 0, 1) := by decide +kernel
theorem d_TD_reserve_31 : decode b_TD_reserve 31 = .ok (.getfield 127, 3) := by decide +kernel
theorem d_TD_reserve_34 : decode b_TD_reserve 34 = .ok (.ifCond .eq 6, 3) := by decide +kernel
theorem d_TD_reserve_37 : decode b_TD_reserve 37 = .ok (.bipush (-3), 2) := by decide +kernel
theorem d_TD_reserve_39 : decode b_TD_reserve 39 = .ok (.ireturn, 1) := by decide +kernel
theorem d_TD_reserve_40 : decode b_TD_reserve 40 = .ok (.aload_n 3, 1) := by decide +kernel
theorem d_TD_reserve_41 : decode b_TD_reserve 41 = .ok (.getfield 110, 3) := by decide +kernel
theorem d_TD_reserve_44 : decode b_TD_reserve 44 = .ok (.ifCond .eq 6, 3) := by decide +kernel
theorem d_TD_reserve_47 : decode b_TD_reserve 47 = .ok (.bipush (-4), 2) := by decide +kernel
theorem d_TD_reserve_49 : decode b_TD_reserve 49 = .ok (.ireturn, 1) := by decide +kernel
theorem d_TD_reserve_50 : decode b_TD_reserve 50 = .ok (.aload_n 3, 1) := by decide +kernel
theorem d_TD_reserve_51 : decode b_TD_reserve 51 = .ok (.iload_n 2, 1) := by decide +kernel
theorem d_TD_reserve_52 : decode b_TD_reserve 52 = .ok (.invokevirtual 155, 3) := by decide +kernel
theorem d_TD_reserve_55 : decode b_TD_reserve 55 = .ok (.astore 5, 2) := by decide +kernel
theorem d_TD_reserve_57 : decode b_TD_reserve 57 = .ok (.aload 5, 2) := by decide +kernel
theorem d_TD_reserve_59 : decode b_TD_reserve 59 = .ok (.getfield 159, 3) := by decide +kernel
theorem d_TD_reserve_62 : decode b_TD_reserve 62 = .ok (.ifCond .le 6, 3) := by decide +kernel
theorem d_TD_reserve_65 : decode b_TD_reserve 65 = .ok (.bipush (-8), 2) := by decide +kernel
theorem d_TD_reserve_67 : decode b_TD_reserve 67 = .ok (.ireturn, 1) := by decide +kernel
theorem d_TD_reserve_68 : decode b_TD_reserve 68 = .ok (.aload_n 0, 1) := by decide +kernel
theorem d_TD_reserve_69 : decode b_TD_reserve 69 = .ok (.iload_n 1, 1) := by decide +kernel
theorem d_TD_reserve_70 : decode b_TD_reserve 70 = .ok (.aload 4, 2) := by decide +kernel
theorem d_TD_reserve_72 : decode b_TD_reserve 72 = .ok (.invokevirtual 164, 3) := by decide +kernel
theorem d_TD_reserve_75 : decode b_TD_reserve 75 = .ok (.ifCond .ne 6, 3) := by decide +kernel
theorem d_TD_reserve_78 : decode b_TD_reserve 78 = .ok (.bipush (-6), 2) := by decide +kernel
theorem d_TD_reserve_80 : decode b_TD_reserve 80 = .ok (.ireturn, 1) := by decide +kernel
theorem d_TD_reserve_81 : decode b_TD_reserve 81 = .ok (.aload_n 0, 1) := by decide +kernel
theorem d_TD_reserve_82 : decode b_TD_reserve 82 = .ok (.getfield 19, 3) := by decide +kernel
theorem d_TD_reserve_85 : decode b_TD_reserve 85 = .ok (.invokevirtual 71, 3) := by decide +kernel
theorem d_TD_reserve_88 : decode b_TD_reserve 88 = .ok (.ifCond .ne 6, 3) := by decide +kernel
theorem d_TD_reserve_91 : decode b_TD_reserve 91 = .ok (.bipush (-2), 2) := by decide +kernel
theorem d_TD_reserve_93 : decode b_TD_reserve 93 = .ok (.ireturn, 1) := by decide +kernel
theorem d_TD_reserve_94 : decode b_TD_reserve 94 = .ok (.aload 5, 2) := by decide +kernel
theorem d_TD_reserve_96 : decode b_TD_reserve 96 = .ok (.aload_n 0, 1) := by decide +kernel
theorem d_TD_reserve_97 : decode b_TD_reserve 97 = .ok (.getfield 42, 3) := by decide +kernel
theorem d_TD_reserve_100 : decode b_TD_reserve 100 = .ok (.aload_n 0, 1) := by decide +kernel
theorem d_TD_reserve_101 : decode b_TD_reserve 101 = .ok (.getfield 10, 3) := by decide +kernel
theorem d_TD_reserve_104 : decode b_TD_reserve 104 = .ok (.getfield 168, 3) := by decide +kernel
theorem d_TD_reserve_107 : decode b_TD_reserve 107 = .ok (.invokevirtual 171, 3) := by decide +kernel
theorem d_TD_reserve_110 : decode b_TD_reserve 110 = .ok (.aload_n 0, 1) := by decide +kernel
theorem d_TD_reserve_111 : decode b_TD_reserve 111 = .ok (.getfield 26, 3) := by decide +kernel
theorem d_TD_reserve_114 : decode b_TD_reserve 114 = .ok (.aload_n 0, 1) := by decide +kernel
theorem d_TD_reserve_115 : decode b_TD_reserve 115 = .ok (.getfield 42, 3) := by decide +kernel
theorem d_TD_reserve_118 : decode b_TD_reserve 118 = .ok (.aload_n 0, 1) := by decide +kernel
theorem d_TD_reserve_119 : decode b_TD_reserve 119 = .ok (.getfield 10, 3) := by decide +kernel
theorem d_TD_reserve_122 : decode b_TD_reserve 122 = .ok (.getfield 168, 3) := by decide +kernel
theorem d_TD_reserve_125 : decode b_TD_reserve 125 = .ok (.invokevirtual 175, 3) := by decide +kernel
theorem d_TD_reserve_128 : decode b_TD_reserve 128 = .ok (.aload 4, 2) := by decide +kernel
theorem d_TD_reserve_130 : decode b_TD_reserve 130 = .ok (.invokevirtual 178, 3) := by decide +kernel
theorem d_TD_reserve_133 : decode b_TD_reserve 133 = .ok (.ireturn, 1) := by decide +kernel
theorem d_TD_offline_0 : decode b_TD_offline 0 = .ok (.aload_n 0, 1) := by decide +kernel
theorem d_TD_offline_1 : decode b_TD_offline 1 = .ok (.iload_n 1, 1) := by decide +kernel
theorem d_TD_offline_2 : decode b_TD_offline 2 = .ok (.invokevirtual 94, 3) := by decide +kernel
theorem d_TD_offline_5 : decode b_TD_offline 5 = .ok (.astore 4, 2) := by decide +kernel
theorem d_TD_offline_7 : decode b_TD_offline 7 = .ok (.aload_n 0, 1) := by decide +kernel
theorem d_TD_offline_8 : decode b_TD_offline 8 = .ok (.iload_n 2, 1) := by decide +kernel
theorem d_TD_offline_9 : decode b_TD_offline 9 = .ok (.invokevirtual 78, 3) := by decide +kernel
theorem d_TD_offline_12 : decode b_TD_offline 12 = .ok (.pop, 1) := by decide +kernel
theorem d_TD_offline_13 : decode b_TD_offline 13 = .ok (.iload_n 3, 1) := by decide +kernel
theorem d_TD_offline_14 : decode b_TD_offline 14 = .ok (.invokestatic 124, 3) := by decide +kernel
theorem d_TD_offline_17 : decode b_TD_offline 17 = .ok (.aload_n 0, 1) := by decide +kernel
theorem d_TD_offline_18 : decode b_TD_offline 18 = .ok (.invokevirtual 107, 3) := by decide +kernel
theorem d_TD_offline_21 : decode b_TD_offline 21 = .ok (.aload_n 0, 1) := by decide +kernel
theorem d_TD_offline_22 : decode b_TD_offline 22 = .ok (.getfield 19, 3) := by decide +kernel
theorem d_TD_offline_25 : decode b_TD_offline 25 = .ok (.getfield 67, 3) := by decide +kernel
theorem d_TD_offline_28 : decode b_TD_offline 28 = .ok (.ifCond .eq 6, 3) := by decide +kernel
theorem d_TD_offline_31 : decode b_TD_offline 31 = .ok (.bipush (-2), 2) := by decide +kernel
theorem d_TD_offline_33 : decode b_TD_offline 33 = .ok (.ireturn, 1) := by decide +kernel
theorem d_TD_offline_34 : decode b_TD_offline 34 = .ok (.aload 4, 2) := by decide +kernel
theorem d_TD_offline_36 : decode b_TD_offline 36 = .ok (.getfield 110, 3) := by decide +kernel
theorem d_TD_offline_39 : decode b_TD_offline 39 = .ok (.ifCond .eq 6, 3) := by decide +kernel
theorem d_TD_offline_42 : decode b_TD_offline 42 = .ok (.bipush (-4), 2) := by decide +kernel
theorem d_TD_offline_44 : decode b_TD_offline 44 = .ok (.ireturn, 1) := by decide +kernel
theorem d_TD_offline_45 : decode b_TD_offline 45 = .ok (.aload 4, 2) := by decide +kernel
theorem d_TD_offline_47 : decode b_TD_offline 47 = .ok (.iload_n 3, 1) := by decide +kernel
theorem d_TD_offline_48 : decode b_TD_offline 48 = .ok (.invokevirtual 130, 3) := by decide +kernel
theorem d_TD_offline_51 : decode b_TD_offline 51 = .ok (.ifCond .eq 6, 3) := by decide +kernel
theorem d_TD_offline_54 : decode b_TD_offline 54 = .ok (.bipush (-5), 2) := by decide +kernel
theorem d_TD_offline_56 : decode b_TD_offline 56 = .ok (.ireturn, 1) := by decide +kernel
theorem d_TD_offline_57 : decode b_TD_offline 57 = .ok (.aload 4, 2) := by decide +kernel
theorem d_TD_offline_59 : decode b_TD_offline 59 = .ok (.iload_n 2, 1) := by decide +kernel
theorem d_TD_offline_60 : decode b_TD_offline 60 = .ok (.invokevirtual 155, 3) := by decide +kernel
theorem d_TD_offline_63 : decode b_TD_offline 63 = .ok (.astore 5, 2) := by decide +kernel
theorem d_TD_offline_65 : decode b_TD_offline 65 = .ok (.aload 5, 2) := by decide +kernel
theorem d_TD_offline_67 : decode b_TD_offline 67 = .ok (.invokevirtual 181, 3) := by decide +kernel
theorem d_TD_offline_70 : decode b_TD_offline 70 = .ok (.istore 6, 2) := by decide +kernel
theorem d_TD_offline_72 : decode b_TD_offline 72 = .ok (.iload 6, 2) := by decide +kernel
theorem d_TD_offline_74 : decode b_TD_offline 74 = .ok (.iconst (-1), 1) := by decide +kernel
theorem d_TD_offline_75 : decode b_TD_offline 75 = .ok (.if_icmp .ne 6, 3) := by decide +kernel
theorem d_TD_offline_78 : decode b_TD_offline 78 = .ok (.bipush (-7), 2) := by decide +kernel
theorem d_TD_offline_80 : decode b_TD_offline 80 = .ok (.ireturn, 1) := by decide +kernel
theorem d_TD_offline_81 : decode b_TD_offline 81 = .ok (.aload_n 0, 1) := by decide +kernel
theorem d_TD_offline_82 : decode b_TD_offline 82 = .ok (.getfield 19, 3) := by decide +kernel
theorem d_TD_offline_85 : decode b_TD_offline 85 = .ok (.invokevirtual 71, 3) := by decide +kernel
theorem d_TD_offline_88 : decode b_TD_offline 88 = .ok (.ifCond .ne 6, 3) := by decide +kernel
theorem d_TD_offline_91 : decode b_TD_offline 91 = .ok (.bipush (-2), 2) := by decide +kernel
theorem d_TD_offline_93 : decode b_TD_offline 93 = .ok (.ireturn, 1) := by decide +kernel
theorem d_TD_offline_94 : decode b_TD_offline 94 = .ok (.aload 5, 2) := by decide +kernel
theorem d_TD_offline_96 : decode b_TD_offline 96 = .ok (.dup, 1) := by decide +kernel
theorem d_TD_offline_97 : decode b_TD_offline 97 = .ok (.getfield 184, 3) := by decide +kernel
theorem d_TD_offline_100 : decode b_TD_offline 100 = .ok (.iconst 1, 1) := by decide +kernel
theorem d_TD_offline_101 : decode b_TD_offline 101 = .ok (.iadd, 1) := by decide +kernel
theorem d_TD_offline_102 : decode b_TD_offline 102 = .ok (.putfield 184, 3) := by decide +kernel
theorem d_TD_offline_105 : decode b_TD_offline 105 = .ok (.aload_n 0, 1) := by decide +kernel
theorem d_TD_offline_106 : decode b_TD_offline 106 = .ok (.getfield 26, 3) := by decide +kernel
theorem d_TD_offline_109 : decode b_TD_offline 109 = .ok (.iload 6, 2) := by decide +kernel
theorem d_TD_offline_111 : decode b_TD_offline 111 = .ok (.iload_n 3, 1) := by decide +kernel
theorem d_TD_offline_112 : decode b_TD_offline 112 = .ok (.invokevirtual 148, 3) := by decide +kernel
theorem d_TD_offline_115 : decode b_TD_offline 115 = .ok (.aload 4, 2) := by decide +kernel
theorem d_TD_offline_117 : decode b_TD_offline 117 = .ok (.iload_n 3, 1) := by decide +kernel
theorem d_TD_offline_118 : decode b_TD_offline 118 = .ok (.iload_n 2, 1) := by decide +kernel
theorem d_TD_offline_119 : decode b_TD_offline 119 = .ok (.aload_n 0, 1) := by decide +kernel
theorem d_TD_offline_120 : decode b_TD_offline 120 = .ok (.getfield 26, 3) := by decide +kernel
theorem d_TD_offline_123 : decode b_TD_offline 123 = .ok (.iload 6, 2) := by decide +kernel
theorem d_TD_offline_125 : decode b_TD_offline 125 = .ok (.invokevirtual 187, 3) := by decide +kernel
theorem d_TD_offline_128 : decode b_TD_offline 128 = .ok (.iconst 1, 1) := by decide +kernel
theorem d_TD_offline_129 : decode b_TD_offline 129 = .ok (.invokevirtual 152, 3) := by decide +kernel
theorem d_TD_offline_132 : decode b_TD_offline 132 = .ok (.iload 6, 2) := by decide +kernel
theorem d_TD_offline_134 : decode b_TD_offline 134 = .ok (.ireturn, 1) := by decide +kernel
theorem d_TD_report_0 : decode b_TD_report 0 = .ok (.aload_n 0, 1) := by decide +kernel
theorem d_TD_report_1 : decode b_TD_report 1 = .ok (.iload_n 1, 1) := by decide +kernel
theorem d_TD_report_2 : decode b_TD_report 2 = .ok (.invokevirtual 94, 3) := by decide +kernel
theorem d_TD_report_5 : decode b_TD_report 5 = .ok (.astore_n 2, 1) := by decide +kernel
theorem d_TD_report_6 : decode b_TD_report 6 = .ok (.aload_n 0, 1) := by decide +kernel
theorem d_TD_report_7 : decode b_TD_report 7 = .ok (.getfield 19, 3) := by decide +kernel
theorem d_TD_report_10 : decode b_TD_report 10 = .ok (.getfield 67, 3) := by decide +kernel
theorem d_TD_report_13 : decode b_TD_report 13 = .ok (.ifCond .eq 6, 3) := by decide +kernel
theorem d_TD_report_16 : decode b_TD_report 16 = .ok (.bipush (-2), 2) := by decide +kernel
theorem d_TD_report_18 : decode b_TD_report 18 = .ok (.ireturn, 1) := by decide +kernel
theorem d_TD_report_19 : decode b_TD_report 19 = .ok (.aload_n 2, 1) := by decide +kernel
theorem d_TD_report_20 : decode b_TD_report 20 = .ok (.getfield 110, 3) := by decide +kernel
theorem d_TD_report_23 : decode b_TD_report 23 = .ok (.ifCond .eq 6, 3) := by decide +kernel
theorem d_TD_report_26 : decode b_TD_report 26 = .ok (.bipush (-4), 2) := by decide +kernel
theorem d_TD_report_28 : decode b_TD_report 28 = .ok (.ireturn, 1) := by decide +kernel
theorem d_TD_report_29 : decode b_TD_report 29 = .ok (.aload_n 0, 1) := by decide +kernel
theorem d_TD_report_30 : decode b_TD_report 30 = .ok (.getfield 19, 3) := by decide +kernel
theorem d_TD_report_33 : decode b_TD_report 33 = .ok (.invokevirtual 71, 3) := by decide +kernel
theorem d_TD_report_36 : decode b_TD_report 36 = .ok (.ifCond .ne 6, 3) := by decide +kernel
theorem d_TD_report_39 : decode b_TD_report 39 = .ok (.bipush (-2), 2) := by decide +kernel
theorem d_TD_report_41 : decode b_TD_report 41 = .ok (.ireturn, 1) := by decide +kernel
theorem d_TD_report_42 : decode b_TD_report 42 = .ok (.iconst 0, 1) := by decide +kernel
theorem d_TD_report_43 : decode b_TD_report 43 = .ok (.istore_n 3, 1) := by decide +kernel
theorem d_TD_report_44 : decode b_TD_report 44 = .ok (.iconst 0, 1) := by decide +kernel
theorem d_TD_report_45 : decode b_TD_report 45 = .ok (.istore 4, 2) := by decide +kernel
theorem d_TD_report_47 : decode b_TD_report 47 = .ok (.iload 4, 2) := by decide +kernel
theorem d_TD_report_49 : decode b_TD_report 49 = .ok (.bipush 100, 2) := by decide +kernel
theorem d_TD_report_51 : decode b_TD_report 51 = .ok (.if_icmp .ge 40, 3) := by decide +kernel
theorem d_TD_report_54 : decode b_TD_report 54 = .ok (.aload_n 2, 1) := by decide +kernel
theorem d_TD_report_55 : decode b_TD_report 55 = .ok (.iload 4, 2) := by decide +kernel
theorem d_TD_report_57 : decode b_TD_report 57 = .ok (.invokevirtual 191, 3) := by decide +kernel
theorem d_TD_report_60 : decode b_TD_report 60 = .ok (.ifCond .eq 25, 3) := by decide +kernel
theorem d_TD_report_63 : decode b_TD_report 63 = .ok (.aload_n 0, 1) := by decide +kernel
theorem d_TD_report_64 : decode b_TD_report 64 = .ok (.aload_n 2, 1) := by decide +kernel
theorem d_TD_report_65 : decode b_TD_report 65 = .ok (.iload 4, 2) := by decide +kernel
theorem d_TD_report_67 : decode b_TD_report 67 = .ok (.invokevirtual 194, 3) := by decide +kernel
theorem d_TD_report_70 : decode b_TD_report 70 = .ok (.invokevirtual 78, 3) := by decide +kernel
theorem d_TD_report_73 : decode b_TD_report 73 = .ok (.aload_n 2, 1) := by decide +kernel
theorem d_TD_report_74 : decode b_TD_report 74 = .ok (.iload 4, 2) := by decide +kernel
theorem d_TD_report_76 : decode b_TD_report 76 = .ok (.invokevirtual 197, 3) := by decide +kernel
theorem d_TD_report_79 : decode b_TD_report 79 = .ok (.invokevirtual 145, 3) := by decide +kernel
theorem d_TD_report_82 : decode b_TD_report 82 = .ok (.iinc 3 1, 3) := by decide +kernel
theorem d_TD_report_85 : decode b_TD_report 85 = .ok (.iinc 4 1, 3) := by decide +kernel
theorem d_TD_report_88 : decode b_TD_report 88 = .ok (.goto (-41), 3) := by decide +kernel
theorem d_TD_report_91 : decode b_TD_report 91 = .ok (.aload_n 2, 1) := by decide +kernel
theorem d_TD_report_92 : decode b_TD_report 92 = .ok (.invokevirtual 198, 3) := by decide +kernel
theorem d_TD_report_95 : decode b_TD_report 95 = .ok (.aload_n 0, 1) := by decide +kernel
theorem d_TD_report_96 : decode b_TD_report 96 = .ok (.getfield 26, 3) := by decide +kernel
theorem d_TD_report_99 : decode b_TD_report 99 = .ok (.iload_n 1, 1) := by decide +kernel
theorem d_TD_report_100 : decode b_TD_report 100 = .ok (.invokevirtual 201, 3) := by decide +kernel
theorem d_TD_report_103 : decode b_TD_report 103 = .ok (.iload_n 3, 1) := by decide +kernel
theorem d_TD_report_104 : decode b_TD_report 104 = .ok (.ireturn, 1) := by decide +kernel
theorem d_TD_close_0 : decode b_TD_close 0 = .ok (.aload_n 0, 1) := by decide +kernel
theorem d_TD_close_1 : decode b_TD_close 1 = .ok (.iload_n 1, 1) := by decide +kernel
theorem d_TD_close_2 : decode b_TD_close 2 = .ok (.invokevirtual 94, 3) := by decide +kernel
theorem d_TD_close_5 : decode b_TD_close 5 = .ok (.astore_n 2, 1) := by decide +kernel
theorem d_TD_close_6 : decode b_TD_close 6 = .ok (.aload_n 0, 1) := by decide +kernel
theorem d_TD_close_7 : decode b_TD_close 7 = .ok (.getfield 19, 3) := by decide +kernel
theorem d_TD_close_10 : decode b_TD_close 10 = .ok (.getfield 67, 3) := by decide +kernel
theorem d_TD_close_13 : decode b_TD_close 13 = .ok (.ifCond .eq 6, 3) := by decide +kernel
theorem d_TD_close_16 : decode b_TD_close 16 = .ok (.bipush (-2), 2) := by decide +kernel
theorem d_TD_close_18 : decode b_TD_close 18 = .ok (.ireturn, 1) := by decide +kernel
theorem d_TD_close_19 : decode b_TD_close 19 = .ok (.aload_n 2, 1) := by decide +kernel
theorem d_TD_close_20 : decode b_TD_close 20 = .ok (.getfield 110, 3) := by decide +kernel
theorem d_TD_close_23 : decode b_TD_close 23 = .ok (.ifCond .eq 6, 3) := by decide +kernel
theorem d_TD_close_26 : decode b_TD_close 26 = .ok (.bipush (-4), 2) := by decide +kernel
theorem d_TD_close_28 : decode b_TD_close 28 = .ok (.ireturn, 1) := by decide +kernel
theorem d_TD_close_29 : decode b_TD_close 29 = .ok (.aload_n 0, 1) := by decide +kernel
theorem d_TD_close_30 : decode b_TD_close 30 = .ok (.getfield 19, 3) := by decide +kernel
theorem d_TD_close_33 : decode b_TD_close 33 = .ok (.invokevirtual 71, 3) := by decide +kernel
theorem d_TD_close_36 : decode b_TD_close 36 = .ok (.ifCond .ne 6, 3) := by decide +kernel
theorem d_TD_close_39 : decode b_TD_close 39 = .ok (.bipush (-2), 2) := by decide +kernel
theorem d_TD_close_41 : decode b_TD_close 41 = .ok (.ireturn, 1) := by decide +kernel
theorem d_TD_close_42 : decode b_TD_close 42 = .ok (.aload_n 2, 1) := by decide +kernel
theorem d_TD_close_43 : decode b_TD_close 43 = .ok (.invokevirtual 204, 3) := by decide +kernel
theorem d_TD_close_46 : decode b_TD_close 46 = .ok (.istore_n 3, 1) := by decide +kernel
theorem d_TD_close_47 : decode b_TD_close 47 = .ok (.aload_n 2, 1) := by decide +kernel
theorem d_TD_close_48 : decode b_TD_close 48 = .ok (.invokevirtual 198, 3) := by decide +kernel
theorem d_TD_close_51 : decode b_TD_close 51 = .ok (.aload_n 2, 1) := by decide +kernel
theorem d_TD_close_52 : decode b_TD_close 52 = .ok (.iconst 1, 1) := by decide +kernel
theorem d_TD_close_53 : decode b_TD_close 53 = .ok (.putfield 110, 3) := by decide +kernel
theorem d_TD_close_56 : decode b_TD_close 56 = .ok (.iload_n 3, 1) := by decide +kernel
theorem d_TD_close_57 : decode b_TD_close 57 = .ok (.ireturn, 1) := by decide +kernel
theorem d_TD_key_0 : decode b_TD_key 0 = .ok (.iload_n 1, 1) := by decide +kernel
theorem d_TD_key_1 : decode b_TD_key 1 = .ok (.invokestatic 207, 3) := by decide +kernel
theorem d_TD_key_4 : decode b_TD_key 4 = .ok (.aload_n 0, 1) := by decide +kernel
theorem d_TD_key_5 : decode b_TD_key 5 = .ok (.iload_n 2, 1) := by decide +kernel
theorem d_TD_key_6 : decode b_TD_key 6 = .ok (.invokevirtual 94, 3) := by decide +kernel
theorem d_TD_key_9 : decode b_TD_key 9 = .ok (.astore 4, 2) := by decide +kernel
theorem d_TD_key_11 : decode b_TD_key 11 = .ok (.iload_n 3, 1) := by decide +kernel
theorem d_TD_key_12 : decode b_TD_key 12 = .ok (.invokestatic 124, 3) := by decide +kernel
theorem d_TD_key_15 : decode b_TD_key 15 = .ok (.aload_n 0, 1) := by decide +kernel
theorem d_TD_key_16 : decode b_TD_key 16 = .ok (.getfield 19, 3) := by decide +kernel
theorem d_TD_key_19 : decode b_TD_key 19 = .ok (.getfield 67, 3) := by decide +kernel
theorem d_TD_key_22 : decode b_TD_key 22 = .ok (.ifCond .ne 13, 3) := by decide +kernel
theorem d_TD_key_25 : decode b_TD_key 25 = .ok (.aload_n 0, 1) := by decide +kernel
theorem d_TD_key_26 : decode b_TD_key 26 = .ok (.getfield 19, 3) := by decide +kernel
theorem d_TD_key_29 : decode b_TD_key 29 = .ok (.invokevirtual 71, 3) := by decide +kernel
theorem d_TD_key_32 : decode b_TD_key 32 = .ok (.ifCond .ne 6, 3) := by decide +kernel
theorem d_TD_key_35 : decode b_TD_key 35 = .ok (.bipush (-2), 2) := by decide +kernel
theorem d_TD_key_37 : decode b_TD_key 37 = .ok (.ireturn, 1) := by decide +kernel
theorem d_TD_key_38 : decode b_TD_key 38 = .ok (.aload 4, 2) := by decide +kernel
theorem d_TD_key_40 : decode b_TD_key 40 = .ok (.iload_n 3, 1) := by decide +kernel
theorem d_TD_key_41 : decode b_TD_key 41 = .ok (.iload_n 1, 1) := by decide +kernel
theorem d_TD_key_42 : decode b_TD_key 42 = .ok (.invokevirtual 210, 3) := by decide +kernel
theorem d_TD_key_45 : decode b_TD_key 45 = .ok (.aload 4, 2) := by decide +kernel
theorem d_TD_key_47 : decode b_TD_key 47 = .ok (.iload_n 3, 1) := by decide +kernel
theorem d_TD_key_48 : decode b_TD_key 48 = .ok (.invokevirtual 213, 3) := by decide +kernel
theorem d_TD_key_51 : decode b_TD_key 51 = .ok (.ireturn, 1) := by decide +kernel
theorem d_TD_arm_0 : decode b_TD_arm 0 = .ok (.aload_n 0, 1) := by decide +kernel
theorem d_TD_arm_1 : decode b_TD_arm 1 = .ok (.iload_n 1, 1) := by decide +kernel
theorem d_TD_arm_2 : decode b_TD_arm 2 = .ok (.invokevirtual 94, 3) := by decide +kernel
theorem d_TD_arm_5 : decode b_TD_arm 5 = .ok (.astore_n 3, 1) := by decide +kernel
theorem d_TD_arm_6 : decode b_TD_arm 6 = .ok (.iload_n 2, 1) := by decide +kernel
theorem d_TD_arm_7 : decode b_TD_arm 7 = .ok (.invokestatic 124, 3) := by decide +kernel
theorem d_TD_arm_10 : decode b_TD_arm 10 = .ok (.aload_n 0, 1) := by decide +kernel
theorem d_TD_arm_11 : decode b_TD_arm 11 = .ok (.getfield 127, 3) := by decide +kernel
theorem d_TD_arm_14 : decode b_TD_arm 14 = .ok (.ifCond .ne 12, 3) := by decide +kernel
theorem d_TD_arm_17 : decode b_TD_arm 17 = .ok (.aload_n 3, 1) := by decide +kernel
theorem d_TD_arm_18 : decode b_TD_arm 18 = .ok (.iload_n 2, 1) := by decide +kernel
theorem d_TD_arm_19 : decode b_TD_arm 19 = .ok (.invokevirtual 213, 3) := by decide +kernel
theorem d_TD_arm_22 : decode b_TD_arm 22 = .ok (.iconst 2, 1) := by decide +kernel
theorem d_TD_arm_23 : decode b_TD_arm 23 = .ok (.if_icmp .lt 7, 3) := by decide +kernel
theorem d_TD_arm_26 : decode b_TD_arm 26 = .ok (.iconst 1, 1) := by decide +kernel
theorem d_TD_arm_27 : decode b_TD_arm 27 = .ok (.goto 4, 3) := by decide +kernel
theorem d_TD_arm_30 : decode b_TD_arm 30 = .ok (.iconst 0, 1) := by decide +kernel
theorem d_TD_arm_31 : decode b_TD_arm 31 = .ok (.istore 4, 2) := by decide +kernel
theorem d_TD_arm_33 : decode b_TD_arm 33 = .ok (.iload 4, 2) := by decide +kernel
theorem d_TD_arm_35 : decode b_TD_arm 35 = .ok (.ifCond .eq 19, 3) := by decide +kernel
theorem d_TD_arm_38 : decode b_TD_arm 38 = .ok (.aload_n 3, 1) := by decide +kernel
theorem d_TD_arm_39 : decode b_TD_arm 39 = .ok (.iload_n 2, 1) := by decide +kernel
theorem d_TD_arm_40 : decode b_TD_arm 40 = .ok (.invokevirtual 216, 3) := by decide +kernel
theorem d_TD_arm_43 : decode b_TD_arm 43 = .ok (.ifCond .eq 11, 3) := by decide +kernel
theorem d_TD_arm_46 : decode b_TD_arm 46 = .ok (.aload_n 3, 1) := by decide +kernel
theorem d_TD_arm_47 : decode b_TD_arm 47 = .ok (.iload_n 2, 1) := by decide +kernel
theorem d_TD_arm_48 : decode b_TD_arm 48 = .ok (.invokevirtual 197, 3) := by decide +kernel
theorem d_TD_arm_51 : decode b_TD_arm 51 = .ok (.goto 4, 3) := by decide +kernel
theorem d_TD_arm_54 : decode b_TD_arm 54 = .ok (.iconst (-1), 1) := by decide +kernel
theorem d_TD_arm_55 : decode b_TD_arm 55 = .ok (.ireturn, 1) := by decide +kernel
theorem d_TD_open_0 : decode b_TD_open 0 = .ok (.iload_n 1, 1) := by decide +kernel
theorem d_TD_open_1 : decode b_TD_open 1 = .ok (.invokestatic 207, 3) := by decide +kernel
theorem d_TD_open_4 : decode b_TD_open 4 = .ok (.iload_n 2, 1) := by decide +kernel
theorem d_TD_open_5 : decode b_TD_open 5 = .ok (.invokestatic 207, 3) := by decide +kernel
theorem d_TD_open_8 : decode b_TD_open 8 = .ok (.aload_n 0, 1) := by decide +kernel
theorem d_TD_open_9 : decode b_TD_open 9 = .ok (.getfield 19, 3) := by decide +kernel
theorem d_TD_open_12 : decode b_TD_open 12 = .ok (.getfield 67, 3) := by decide +kernel
theorem d_TD_open_15 : decode b_TD_open 15 = .ok (.ifCond .eq 6, 3) := by decide +kernel
theorem d_TD_open_18 : decode b_TD_open 18 = .ok (.bipush (-2), 2) := by decide +kernel
theorem d_TD_open_20 : decode b_TD_open 20 = .ok (.ireturn, 1) := by decide +kernel
theorem d_TD_open_21 : decode b_TD_open 21 = .ok (.iload_n 1, 1) := by decide +kernel
theorem d_TD_open_22 : decode b_TD_open 22 = .ok (.iload_n 2, 1) := by decide +kernel
theorem d_TD_open_23 : decode b_TD_open 23 = .ok (.if_icmp .eq 10, 3) := by decide +kernel
theorem d_TD_open_26 : decode b_TD_open 26 = .ok (.aload_n 0, 1) := by decide +kernel
theorem d_TD_open_27 : decode b_TD_open 27 = .ok (.getfield 127, 3) := by decide +kernel
theorem d_TD_open_30 : decode b_TD_open 30 = .ok (.ifCond .eq 5, 3) := by decide +kernel
theorem d_TD_open_33 : decode b_TD_open 33 = .ok (.iconst 0, 1) := by decide +kernel
theorem d_TD_open_34 : decode b_TD_open 34 = .ok (.ireturn, 1) := by decide +kernel
theorem d_TD_open_35 : decode b_TD_open 35 = .ok (.aload_n 0, 1) := by decide +kernel
theorem d_TD_open_36 : decode b_TD_open 36 = .ok (.getfield 19, 3) := by decide +kernel
theorem d_TD_open_39 : decode b_TD_open 39 = .ok (.invokevirtual 71, 3) := by decide +kernel
theorem d_TD_open_42 : decode b_TD_open 42 = .ok (.ifCond .ne 6, 3) := by decide +kernel
theorem d_TD_open_45 : decode b_TD_open 45 = .ok (.bipush (-2), 2) := by decide +kernel
theorem d_TD_open_47 : decode b_TD_open 47 = .ok (.ireturn, 1) := by decide +kernel
theorem d_TD_open_48 : decode b_TD_open 48 = .ok (.aload_n 0, 1) := by decide +kernel
theorem d_TD_open_49 : decode b_TD_open 49 = .ok (.iconst 1, 1) := by decide +kernel
theorem d_TD_open_50 : decode b_TD_open 50 = .ok (.putfield 127, 3) := by decide +kernel
theorem d_TD_open_53 : decode b_TD_open 53 = .ok (.iconst 1, 1) := by decide +kernel
theorem d_TD_open_54 : decode b_TD_open 54 = .ok (.ireturn, 1) := by decide +kernel
theorem d_TD_count_0 : decode b_TD_count 0 = .ok (.aload_n 0, 1) := by decide +kernel
theorem d_TD_count_1 : decode b_TD_count 1 = .ok (.iload_n 1, 1) := by decide +kernel
theorem d_TD_count_2 : decode b_TD_count 2 = .ok (.invokevirtual 78, 3) := by decide +kernel
theorem d_TD_count_5 : decode b_TD_count 5 = .ok (.astore_n 3, 1) := by decide +kernel
theorem d_TD_count_6 : decode b_TD_count 6 = .ok (.aload_n 0, 1) := by decide +kernel
theorem d_TD_count_7 : decode b_TD_count 7 = .ok (.iload_n 2, 1) := by decide +kernel
theorem d_TD_count_8 : decode b_TD_count 8 = .ok (.invokevirtual 98, 3) := by decide +kernel
theorem d_TD_count_11 : decode b_TD_count 11 = .ok (.aload_n 0, 1) := by decide +kernel
theorem d_TD_count_12 : decode b_TD_count 12 = .ok (.invokevirtual 107, 3) := by decide +kernel
theorem d_TD_count_15 : decode b_TD_count 15 = .ok (.aload_n 0, 1) := by decide +kernel
theorem d_TD_count_16 : decode b_TD_count 16 = .ok (.getfield 127, 3) := by decide +kernel
theorem d_TD_count_19 : decode b_TD_count 19 = .ok (.ifCond .eq 11, 3) := by decide +kernel
theorem d_TD_count_22 : decode b_TD_count 22 = .ok (.aload_n 3, 1) := by decide +kernel
theorem d_TD_count_23 : decode b_TD_count 23 = .ok (.iload_n 2, 1) := by decide +kernel
theorem d_TD_count_24 : decode b_TD_count 24 = .ok (.invokevirtual 219, 3) := by decide +kernel
theorem d_TD_count_27 : decode b_TD_count 27 = .ok (.goto 4, 3) := by decide +kernel
theorem d_TD_count_30 : decode b_TD_count 30 = .ok (.iconst (-1), 1) := by decide +kernel
theorem d_TD_count_31 : decode b_TD_count 31 = .ok (.ireturn, 1) := by decide +kernel
theorem d_TD_spread_0 : decode b_TD_spread 0 = .ok (.aload_n 0, 1) := by decide +kernel
theorem d_TD_spread_1 : decode b_TD_spread 1 = .ok (.iload_n 1, 1) := by decide +kernel
theorem d_TD_spread_2 : decode b_TD_spread 2 = .ok (.invokevirtual 78, 3) := by decide +kernel
theorem d_TD_spread_5 : decode b_TD_spread 5 = .ok (.astore_n 2, 1) := by decide +kernel
theorem d_TD_spread_6 : decode b_TD_spread 6 = .ok (.aload_n 0, 1) := by decide +kernel
theorem d_TD_spread_7 : decode b_TD_spread 7 = .ok (.invokevirtual 107, 3) := by decide +kernel
theorem d_TD_spread_10 : decode b_TD_spread 10 = .ok (.aload_n 0, 1) := by decide +kernel
theorem d_TD_spread_11 : decode b_TD_spread 11 = .ok (.getfield 127, 3) := by decide +kernel
theorem d_TD_spread_14 : decode b_TD_spread 14 = .ok (.ifCond .eq 10, 3) := by decide +kernel
theorem d_TD_spread_17 : decode b_TD_spread 17 = .ok (.aload_n 2, 1) := by decide +kernel
theorem d_TD_spread_18 : decode b_TD_spread 18 = .ok (.invokevirtual 222, 3) := by decide +kernel
theorem d_TD_spread_21 : decode b_TD_spread 21 = .ok (.goto 4, 3) := by decide +kernel
theorem d_TD_spread_24 : decode b_TD_spread 24 = .ok (.iconst (-1), 1) := by decide +kernel
theorem d_TD_spread_25 : decode b_TD_spread 25 = .ok (.ireturn, 1) := by decide +kernel
theorem d_TD_entry_0 : decode b_TD_entry 0 = .ok (.aload_n 0, 1) := by decide +kernel
theorem d_TD_entry_1 : decode b_TD_entry 1 = .ok (.iload_n 1, 1) := by decide +kernel
theorem d_TD_entry_2 : decode b_TD_entry 2 = .ok (.invokevirtual 78, 3) := by decide +kernel
theorem d_TD_entry_5 : decode b_TD_entry 5 = .ok (.astore_n 3, 1) := by decide +kernel
theorem d_TD_entry_6 : decode b_TD_entry 6 = .ok (.aload_n 0, 1) := by decide +kernel
theorem d_TD_entry_7 : decode b_TD_entry 7 = .ok (.getfield 127, 3) := by decide +kernel
theorem d_TD_entry_10 : decode b_TD_entry 10 = .ok (.ifCond .eq 11, 3) := by decide +kernel
theorem d_TD_entry_13 : decode b_TD_entry 13 = .ok (.aload_n 3, 1) := by decide +kernel
theorem d_TD_entry_14 : decode b_TD_entry 14 = .ok (.iload_n 2, 1) := by decide +kernel
theorem d_TD_entry_15 : decode b_TD_entry 15 = .ok (.invokevirtual 225, 3) := by decide +kernel
theorem d_TD_entry_18 : decode b_TD_entry 18 = .ok (.goto 4, 3) := by decide +kernel
theorem d_TD_entry_21 : decode b_TD_entry 21 = .ok (.iconst (-1), 1) := by decide +kernel
theorem d_TD_entry_22 : decode b_TD_entry 22 = .ok (.ireturn, 1) := by decide +kernel
theorem d_TD_blocks_0 : decode b_TD_blocks 0 = .ok (.aload_n 0, 1) := by decide +kernel
theorem d_TD_blocks_1 : decode b_TD_blocks 1 = .ok (.iload_n 1, 1) := by decide +kernel
theorem d_TD_blocks_2 : decode b_TD_blocks 2 = .ok (.invokevirtual 78, 3) := by decide +kernel
theorem d_TD_blocks_5 : decode b_TD_blocks 5 = .ok (.getfield 228, 3) := by decide +kernel
theorem d_TD_blocks_8 : decode b_TD_blocks 8 = .ok (.ireturn, 1) := by decide +kernel
theorem d_TD_stock_0 : decode b_TD_stock 0 = .ok (.aload_n 0, 1) := by decide +kernel
theorem d_TD_stock_1 : decode b_TD_stock 1 = .ok (.iload_n 1, 1) := by decide +kernel
theorem d_TD_stock_2 : decode b_TD_stock 2 = .ok (.invokevirtual 94, 3) := by decide +kernel
theorem d_TD_stock_5 : decode b_TD_stock 5 = .ok (.pop, 1) := by decide +kernel
theorem d_TD_stock_6 : decode b_TD_stock 6 = .ok (.iload_n 2, 1) := by decide +kernel
theorem d_TD_stock_7 : decode b_TD_stock 7 = .ok (.tableswitch 55 0 2 #[25, 35, 45], 25) := by decide +kernel
theorem d_TD_stock_32 : decode b_TD_stock 32 = .ok (.aload_n 0, 1) := by decide +kernel
theorem d_TD_stock_33 : decode b_TD_stock 33 = .ok (.getfield 26, 3) := by decide +kernel
theorem d_TD_stock_36 : decode b_TD_stock 36 = .ok (.iload_n 1, 1) := by decide +kernel
theorem d_TD_stock_37 : decode b_TD_stock 37 = .ok (.iconst 1, 1) := by decide +kernel
theorem d_TD_stock_38 : decode b_TD_stock 38 = .ok (.invokevirtual 231, 3) := by decide +kernel
theorem d_TD_stock_41 : decode b_TD_stock 41 = .ok (.ireturn, 1) := by decide +kernel
theorem d_TD_stock_42 : decode b_TD_stock 42 = .ok (.aload_n 0, 1) := by decide +kernel
theorem d_TD_stock_43 : decode b_TD_stock 43 = .ok (.getfield 26, 3) := by decide +kernel
theorem d_TD_stock_46 : decode b_TD_stock 46 = .ok (.iload_n 1, 1) := by decide +kernel
theorem d_TD_stock_47 : decode b_TD_stock 47 = .ok (.iconst 2, 1) := by decide +kernel
theorem d_TD_stock_48 : decode b_TD_stock 48 = .ok (.invokevirtual 231, 3) := by decide +kernel
theorem d_TD_stock_51 : decode b_TD_stock 51 = .ok (.ireturn, 1) := by decide +kernel
theorem d_TD_stock_52 : decode b_TD_stock 52 = .ok (.aload_n 0, 1) := by decide +kernel
theorem d_TD_stock_53 : decode b_TD_stock 53 = .ok (.getfield 26, 3) := by decide +kernel
theorem d_TD_stock_56 : decode b_TD_stock 56 = .ok (.iload_n 1, 1) := by decide +kernel
theorem d_TD_stock_57 : decode b_TD_stock 57 = .ok (.iconst 3, 1) := by decide +kernel
theorem d_TD_stock_58 : decode b_TD_stock 58 = .ok (.invokevirtual 231, 3) := by decide +kernel
theorem d_TD_stock_61 : decode b_TD_stock 61 = .ok (.ireturn, 1) := by decide +kernel
theorem d_TD_stock_62 : decode b_TD_stock 62 = .ok (.new 57, 3) := by decide +kernel
theorem d_TD_stock_65 : decode b_TD_stock 65 = .ok (.dup, 1) := by decide +kernel
theorem d_TD_stock_66 : decode b_TD_stock 66 = .ok (.invokespecial 59, 3) := by decide +kernel
theorem d_TD_stock_69 : decode b_TD_stock 69 = .ok (.athrow, 1) := by decide +kernel
theorem d_TD_used_0 : decode b_TD_used 0 = .ok (.iload_n 1, 1) := by decide +kernel
theorem d_TD_used_1 : decode b_TD_used 1 = .ok (.invokestatic 102, 3) := by decide +kernel
theorem d_TD_used_4 : decode b_TD_used 4 = .ok (.aload_n 0, 1) := by decide +kernel
theorem d_TD_used_5 : decode b_TD_used 5 = .ok (.getfield 127, 3) := by decide +kernel
theorem d_TD_used_8 : decode b_TD_used 8 = .ok (.ifCond .eq 14, 3) := by decide +kernel
theorem d_TD_used_11 : decode b_TD_used 11 = .ok (.aload_n 0, 1) := by decide +kernel
theorem d_TD_used_12 : decode b_TD_used 12 = .ok (.getfield 26, 3) := by decide +kernel
theorem d_TD_used_15 : decode b_TD_used 15 = .ok (.iload_n 1, 1) := by decide +kernel
theorem d_TD_used_16 : decode b_TD_used 16 = .ok (.invokevirtual 234, 3) := by decide +kernel
theorem d_TD_used_19 : decode b_TD_used 19 = .ok (.goto 4, 3) := by decide +kernel
theorem d_TD_used_22 : decode b_TD_used 22 = .ok (.iconst (-1), 1) := by decide +kernel
theorem d_TD_used_23 : decode b_TD_used 23 = .ok (.ireturn, 1) := by decide +kernel
theorem d_TD_tear_0 : decode b_TD_tear 0 = .ok (.aload_n 0, 1) := by decide +kernel
theorem d_TD_tear_1 : decode b_TD_tear 1 = .ok (.getfield 19, 3) := by decide +kernel
theorem d_TD_tear_4 : decode b_TD_tear 4 = .ok (.invokevirtual 237, 3) := by decide +kernel
theorem d_TD_tear_7 : decode b_TD_tear 7 = .ok (.return_, 1) := by decide +kernel
theorem d_TD_mount_0 : decode b_TD_mount 0 = .ok (.aload_n 0, 1) := by decide +kernel
theorem d_TD_mount_1 : decode b_TD_mount 1 = .ok (.getfield 19, 3) := by decide +kernel
theorem d_TD_mount_4 : decode b_TD_mount 4 = .ok (.getfield 67, 3) := by decide +kernel
theorem d_TD_mount_7 : decode b_TD_mount 7 = .ok (.ifCond .ne 11, 3) := by decide +kernel
theorem d_TD_mount_10 : decode b_TD_mount 10 = .ok (.new 64, 3) := by decide +kernel
theorem d_TD_mount_13 : decode b_TD_mount 13 = .ok (.dup, 1) := by decide +kernel
theorem d_TD_mount_14 : decode b_TD_mount 14 = .ok (.invokespecial 66, 3) := by decide +kernel
theorem d_TD_mount_17 : decode b_TD_mount 17 = .ok (.athrow, 1) := by decide +kernel
theorem d_TD_mount_18 : decode b_TD_mount 18 = .ok (.aload_n 0, 1) := by decide +kernel
theorem d_TD_mount_19 : decode b_TD_mount 19 = .ok (.getfield 19, 3) := by decide +kernel
theorem d_TD_mount_22 : decode b_TD_mount 22 = .ok (.iconst 0, 1) := by decide +kernel
theorem d_TD_mount_23 : decode b_TD_mount 23 = .ok (.putfield 67, 3) := by decide +kernel
theorem d_TD_mount_26 : decode b_TD_mount 26 = .ok (.aload_n 0, 1) := by decide +kernel
theorem d_TD_mount_27 : decode b_TD_mount 27 = .ok (.getfield 19, 3) := by decide +kernel
theorem d_TD_mount_30 : decode b_TD_mount 30 = .ok (.getfield 240, 3) := by decide +kernel
theorem d_TD_mount_33 : decode b_TD_mount 33 = .ok (.ireturn, 1) := by decide +kernel
theorem d_TD_areWeights_0 : decode b_TD_areWeights 0 = .ok (.iload_n 0, 1) := by decide +kernel
theorem d_TD_areWeights_1 : decode b_TD_areWeights 1 = .ok (.iconst 1, 1) := by decide +kernel
theorem d_TD_areWeights_2 : decode b_TD_areWeights 2 = .ok (.invokestatic 243, 3) := by decide +kernel
theorem d_TD_areWeights_5 : decode b_TD_areWeights 5 = .ok (.ifCond .eq 31, 3) := by decide +kernel
theorem d_TD_areWeights_8 : decode b_TD_areWeights 8 = .ok (.iload_n 1, 1) := by decide +kernel
theorem d_TD_areWeights_9 : decode b_TD_areWeights 9 = .ok (.iconst 1, 1) := by decide +kernel
theorem d_TD_areWeights_10 : decode b_TD_areWeights 10 = .ok (.invokestatic 243, 3) := by decide +kernel
theorem d_TD_areWeights_13 : decode b_TD_areWeights 13 = .ok (.ifCond .eq 23, 3) := by decide +kernel
theorem d_TD_areWeights_16 : decode b_TD_areWeights 16 = .ok (.iload_n 2, 1) := by decide +kernel
theorem d_TD_areWeights_17 : decode b_TD_areWeights 17 = .ok (.iconst 0, 1) := by decide +kernel
theorem d_TD_areWeights_18 : decode b_TD_areWeights 18 = .ok (.invokestatic 243, 3) := by decide +kernel
theorem d_TD_areWeights_21 : decode b_TD_areWeights 21 = .ok (.ifCond .eq 15, 3) := by decide +kernel
theorem d_TD_areWeights_24 : decode b_TD_areWeights 24 = .ok (.iload_n 3, 1) := by decide +kernel
theorem d_TD_areWeights_25 : decode b_TD_areWeights 25 = .ok (.iconst 0, 1) := by decide +kernel
theorem d_TD_areWeights_26 : decode b_TD_areWeights 26 = .ok (.invokestatic 243, 3) := by decide +kernel
theorem d_TD_areWeights_29 : decode b_TD_areWeights 29 = .ok (.ifCond .eq 7, 3) := by decide +kernel
theorem d_TD_areWeights_32 : decode b_TD_areWeights 32 = .ok (.iconst 1, 1) := by decide +kernel
theorem d_TD_areWeights_33 : decode b_TD_areWeights 33 = .ok (.goto 4, 3) := by decide +kernel
theorem d_TD_areWeights_36 : decode b_TD_areWeights 36 = .ok (.iconst 0, 1) := by decide +kernel
theorem d_TD_areWeights_37 : decode b_TD_areWeights 37 = .ok (.istore 4, 2) := by decide +kernel
theorem d_TD_areWeights_39 : decode b_TD_areWeights 39 = .ok (.iload 4, 2) := by decide +kernel
theorem d_TD_areWeights_41 : decode b_TD_areWeights 41 = .ok (.ifCond .eq 15, 3) := by decide +kernel
theorem d_TD_areWeights_44 : decode b_TD_areWeights 44 = .ok (.iload_n 2, 1) := by decide +kernel
theorem d_TD_areWeights_45 : decode b_TD_areWeights 45 = .ok (.ifCond .ne 7, 3) := by decide +kernel
theorem d_TD_areWeights_48 : decode b_TD_areWeights 48 = .ok (.iload_n 3, 1) := by decide +kernel
theorem d_TD_areWeights_49 : decode b_TD_areWeights 49 = .ok (.ifCond .ne 7, 3) := by decide +kernel
theorem d_TD_areWeights_52 : decode b_TD_areWeights 52 = .ok (.iconst 1, 1) := by decide +kernel
theorem d_TD_areWeights_53 : decode b_TD_areWeights 53 = .ok (.goto 4, 3) := by decide +kernel
theorem d_TD_areWeights_56 : decode b_TD_areWeights 56 = .ok (.iconst 0, 1) := by decide +kernel
theorem d_TD_areWeights_57 : decode b_TD_areWeights 57 = .ok (.ireturn, 1) := by decide +kernel
theorem d_TD_isWeight_0 : decode b_TD_isWeight 0 = .ok (.iload_n 0, 1) := by decide +kernel
theorem d_TD_isWeight_1 : decode b_TD_isWeight 1 = .ok (.iload_n 1, 1) := by decide +kernel
theorem d_TD_isWeight_2 : decode b_TD_isWeight 2 = .ok (.if_icmp .lt 12, 3) := by decide +kernel
theorem d_TD_isWeight_5 : decode b_TD_isWeight 5 = .ok (.iload_n 0, 1) := by decide +kernel
theorem d_TD_isWeight_6 : decode b_TD_isWeight 6 = .ok (.iconst 3, 1) := by decide +kernel
theorem d_TD_isWeight_7 : decode b_TD_isWeight 7 = .ok (.if_icmp .gt 7, 3) := by decide +kernel
theorem d_TD_isWeight_10 : decode b_TD_isWeight 10 = .ok (.iconst 1, 1) := by decide +kernel
theorem d_TD_isWeight_11 : decode b_TD_isWeight 11 = .ok (.goto 4, 3) := by decide +kernel
theorem d_TD_isWeight_14 : decode b_TD_isWeight 14 = .ok (.iconst 0, 1) := by decide +kernel
theorem d_TD_isWeight_15 : decode b_TD_isWeight 15 = .ok (.ireturn, 1) := by decide +kernel
theorem d_TD_isSize_0 : decode b_TD_isSize 0 = .ok (.iload_n 0, 1) := by decide +kernel
theorem d_TD_isSize_1 : decode b_TD_isSize 1 = .ok (.iconst 1, 1) := by decide +kernel
theorem d_TD_isSize_2 : decode b_TD_isSize 2 = .ok (.if_icmp .lt 24, 3) := by decide +kernel
theorem d_TD_isSize_5 : decode b_TD_isSize 5 = .ok (.iload_n 0, 1) := by decide +kernel
theorem d_TD_isSize_6 : decode b_TD_isSize 6 = .ok (.bipush 24, 2) := by decide +kernel
theorem d_TD_isSize_8 : decode b_TD_isSize 8 = .ok (.if_icmp .gt 18, 3) := by decide +kernel
theorem d_TD_isSize_11 : decode b_TD_isSize 11 = .ok (.iload_n 1, 1) := by decide +kernel
theorem d_TD_isSize_12 : decode b_TD_isSize 12 = .ok (.iconst 1, 1) := by decide +kernel
theorem d_TD_isSize_13 : decode b_TD_isSize 13 = .ok (.if_icmp .lt 13, 3) := by decide +kernel
theorem d_TD_isSize_16 : decode b_TD_isSize 16 = .ok (.iload_n 0, 1) := by decide +kernel
theorem d_TD_isSize_17 : decode b_TD_isSize 17 = .ok (.iload_n 1, 1) := by decide +kernel
theorem d_TD_isSize_18 : decode b_TD_isSize 18 = .ok (.irem, 1) := by decide +kernel
theorem d_TD_isSize_19 : decode b_TD_isSize 19 = .ok (.ifCond .ne 7, 3) := by decide +kernel
theorem d_TD_isSize_22 : decode b_TD_isSize 22 = .ok (.iconst 1, 1) := by decide +kernel
theorem d_TD_isSize_23 : decode b_TD_isSize 23 = .ok (.goto 4, 3) := by decide +kernel
theorem d_TD_isSize_26 : decode b_TD_isSize 26 = .ok (.iconst 0, 1) := by decide +kernel
theorem d_TD_isSize_27 : decode b_TD_isSize 27 = .ok (.ireturn, 1) := by decide +kernel
theorem d_TD_isAnyBlockTaken_0 : decode b_TD_isAnyBlockTaken 0 = .ok (.iconst 0, 1) := by decide +kernel
theorem d_TD_isAnyBlockTaken_1 : decode b_TD_isAnyBlockTaken 1 = .ok (.istore_n 1, 1) := by decide +kernel
theorem d_TD_isAnyBlockTaken_2 : decode b_TD_isAnyBlockTaken 2 = .ok (.iload_n 1, 1) := by decide +kernel
theorem d_TD_isAnyBlockTaken_3 : decode b_TD_isAnyBlockTaken 3 = .ok (.aload_n 0, 1) := by decide +kernel
theorem d_TD_isAnyBlockTaken_4 : decode b_TD_isAnyBlockTaken 4 = .ok (.getfield 38, 3) := by decide +kernel
theorem d_TD_isAnyBlockTaken_7 : decode b_TD_isAnyBlockTaken 7 = .ok (.arraylength, 1) := by decide +kernel
theorem d_TD_isAnyBlockTaken_8 : decode b_TD_isAnyBlockTaken 8 = .ok (.if_icmp .ge 22, 3) := by decide +kernel
theorem d_TD_isAnyBlockTaken_11 : decode b_TD_isAnyBlockTaken 11 = .ok (.aload_n 0, 1) := by decide +kernel
theorem d_TD_isAnyBlockTaken_12 : decode b_TD_isAnyBlockTaken 12 = .ok (.iload_n 1, 1) := by decide +kernel
theorem d_TD_isAnyBlockTaken_13 : decode b_TD_isAnyBlockTaken 13 = .ok (.invokevirtual 78, 3) := by decide +kernel
theorem d_TD_isAnyBlockTaken_16 : decode b_TD_isAnyBlockTaken 16 = .ok (.getfield 228, 3) := by decide +kernel
theorem d_TD_isAnyBlockTaken_19 : decode b_TD_isAnyBlockTaken 19 = .ok (.ifCond .le 5, 3) := by decide +kernel
theorem d_TD_isAnyBlockTaken_22 : decode b_TD_isAnyBlockTaken 22 = .ok (.iconst 1, 1) := by decide +kernel
theorem d_TD_isAnyBlockTaken_23 : decode b_TD_isAnyBlockTaken 23 = .ok (.ireturn, 1) := by decide +kernel
theorem d_TD_isAnyBlockTaken_24 : decode b_TD_isAnyBlockTaken 24 = .ok (.iinc 1 1, 3) := by decide +kernel
theorem d_TD_isAnyBlockTaken_27 : decode b_TD_isAnyBlockTaken 27 = .ok (.goto (-25), 3) := by decide +kernel
theorem d_TD_isAnyBlockTaken_30 : decode b_TD_isAnyBlockTaken 30 = .ok (.iconst 0, 1) := by decide +kernel
theorem d_TD_isAnyBlockTaken_31 : decode b_TD_isAnyBlockTaken 31 = .ok (.ireturn, 1) := by decide +kernel
theorem d_TD_siteAt_0 : decode b_TD_siteAt 0 = .ok (.iload_n 1, 1) := by decide +kernel
theorem d_TD_siteAt_1 : decode b_TD_siteAt 1 = .ok (.ifCond .lt 21, 3) := by decide +kernel
theorem d_TD_siteAt_4 : decode b_TD_siteAt 4 = .ok (.iload_n 1, 1) := by decide +kernel
theorem d_TD_siteAt_5 : decode b_TD_siteAt 5 = .ok (.aload_n 0, 1) := by decide +kernel
theorem d_TD_siteAt_6 : decode b_TD_siteAt 6 = .ok (.getfield 32, 3) := by decide +kernel
theorem d_TD_siteAt_9 : decode b_TD_siteAt 9 = .ok (.arraylength, 1) := by decide +kernel
theorem d_TD_siteAt_10 : decode b_TD_siteAt 10 = .ok (.if_icmp .ge 12, 3) := by decide +kernel
theorem d_TD_siteAt_13 : decode b_TD_siteAt 13 = .ok (.aload_n 0, 1) := by decide +kernel
theorem d_TD_siteAt_14 : decode b_TD_siteAt 14 = .ok (.getfield 32, 3) := by decide +kernel
theorem d_TD_siteAt_17 : decode b_TD_siteAt 17 = .ok (.iload_n 1, 1) := by decide +kernel
theorem d_TD_siteAt_18 : decode b_TD_siteAt 18 = .ok (.aaload, 1) := by decide +kernel
theorem d_TD_siteAt_19 : decode b_TD_siteAt 19 = .ok (.ifnonnull 11, 3) := by decide +kernel
theorem d_TD_siteAt_22 : decode b_TD_siteAt 22 = .ok (.new 86, 3) := by decide +kernel
theorem d_TD_siteAt_25 : decode b_TD_siteAt 25 = .ok (.dup, 1) := by decide +kernel
theorem d_TD_siteAt_26 : decode b_TD_siteAt 26 = .ok (.invokespecial 88, 3) := by decide +kernel
theorem d_TD_siteAt_29 : decode b_TD_siteAt 29 = .ok (.athrow, 1) := by decide +kernel
theorem d_TD_siteAt_30 : decode b_TD_siteAt 30 = .ok (.aload_n 0, 1) := by decide +kernel
theorem d_TD_siteAt_31 : decode b_TD_siteAt 31 = .ok (.getfield 32, 3) := by decide +kernel
theorem d_TD_siteAt_34 : decode b_TD_siteAt 34 = .ok (.iload_n 1, 1) := by decide +kernel
theorem d_TD_siteAt_35 : decode b_TD_siteAt 35 = .ok (.aaload, 1) := by decide +kernel
theorem d_TD_siteAt_36 : decode b_TD_siteAt 36 = .ok (.areturn, 1) := by decide +kernel
theorem d_TD_stratumAt_0 : decode b_TD_stratumAt 0 = .ok (.iload_n 1, 1) := by decide +kernel
theorem d_TD_stratumAt_1 : decode b_TD_stratumAt 1 = .ok (.ifCond .lt 21, 3) := by decide +kernel
theorem d_TD_stratumAt_4 : decode b_TD_stratumAt 4 = .ok (.iload_n 1, 1) := by decide +kernel
theorem d_TD_stratumAt_5 : decode b_TD_stratumAt 5 = .ok (.aload_n 0, 1) := by decide +kernel
theorem d_TD_stratumAt_6 : decode b_TD_stratumAt 6 = .ok (.getfield 38, 3) := by decide +kernel
theorem d_TD_stratumAt_9 : decode b_TD_stratumAt 9 = .ok (.arraylength, 1) := by decide +kernel
theorem d_TD_stratumAt_10 : decode b_TD_stratumAt 10 = .ok (.if_icmp .ge 12, 3) := by decide +kernel
theorem d_TD_stratumAt_13 : decode b_TD_stratumAt 13 = .ok (.aload_n 0, 1) := by decide +kernel
theorem d_TD_stratumAt_14 : decode b_TD_stratumAt 14 = .ok (.getfield 38, 3) := by decide +kernel
theorem d_TD_stratumAt_17 : decode b_TD_stratumAt 17 = .ok (.iload_n 1, 1) := by decide +kernel
theorem d_TD_stratumAt_18 : decode b_TD_stratumAt 18 = .ok (.aaload, 1) := by decide +kernel
theorem d_TD_stratumAt_19 : decode b_TD_stratumAt 19 = .ok (.ifnonnull 11, 3) := by decide +kernel
theorem d_TD_stratumAt_22 : decode b_TD_stratumAt 22 = .ok (.new 86, 3) := by decide +kernel
theorem d_TD_stratumAt_25 : decode b_TD_stratumAt 25 = .ok (.dup, 1) := by decide +kernel
theorem d_TD_stratumAt_26 : decode b_TD_stratumAt 26 = .ok (.invokespecial 88, 3) := by decide +kernel
theorem d_TD_stratumAt_29 : decode b_TD_stratumAt 29 = .ok (.athrow, 1) := by decide +kernel
theorem d_TD_stratumAt_30 : decode b_TD_stratumAt 30 = .ok (.aload_n 0, 1) := by decide +kernel
theorem d_TD_stratumAt_31 : decode b_TD_stratumAt 31 = .ok (.getfield 38, 3) := by decide +kernel
theorem d_TD_stratumAt_34 : decode b_TD_stratumAt 34 = .ok (.iload_n 1, 1) := by decide +kernel
theorem d_TD_stratumAt_35 : decode b_TD_stratumAt 35 = .ok (.aaload, 1) := by decide +kernel
theorem d_TD_stratumAt_36 : decode b_TD_stratumAt 36 = .ok (.areturn, 1) := by decide +kernel
theorem d_TD_needArm_0 : decode b_TD_needArm 0 = .ok (.aload_n 0, 1) := by decide +kernel
theorem d_TD_needArm_1 : decode b_TD_needArm 1 = .ok (.getfield 10, 3) := by decide +kernel
theorem d_TD_needArm_4 : decode b_TD_needArm 4 = .ok (.getfield 246, 3) := by decide +kernel
theorem d_TD_needArm_7 : decode b_TD_needArm 7 = .ok (.ifCond .ne 7, 3) := by decide +kernel
theorem d_TD_needArm_10 : decode b_TD_needArm 10 = .ok (.iconst 4, 1) := by decide +kernel
theorem d_TD_needArm_11 : decode b_TD_needArm 11 = .ok (.goto 10, 3) := by decide +kernel
theorem d_TD_needArm_14 : decode b_TD_needArm 14 = .ok (.aload_n 0, 1) := by decide +kernel
theorem d_TD_needArm_15 : decode b_TD_needArm 15 = .ok (.getfield 10, 3) := by decide +kernel
theorem d_TD_needArm_18 : decode b_TD_needArm 18 = .ok (.getfield 246, 3) := by decide +kernel
theorem d_TD_needArm_21 : decode b_TD_needArm 21 = .ok (.istore_n 2, 1) := by decide +kernel
theorem d_TD_needArm_22 : decode b_TD_needArm 22 = .ok (.iload_n 1, 1) := by decide +kernel
theorem d_TD_needArm_23 : decode b_TD_needArm 23 = .ok (.ifCond .lt 8, 3) := by decide +kernel
theorem d_TD_needArm_26 : decode b_TD_needArm 26 = .ok (.iload_n 1, 1) := by decide +kernel
theorem d_TD_needArm_27 : decode b_TD_needArm 27 = .ok (.iload_n 2, 1) := by decide +kernel
theorem d_TD_needArm_28 : decode b_TD_needArm 28 = .ok (.if_icmp .lt 11, 3) := by decide +kernel
theorem d_TD_needArm_31 : decode b_TD_needArm 31 = .ok (.new 86, 3) := by decide +kernel
theorem d_TD_needArm_34 : decode b_TD_needArm 34 = .ok (.dup, 1) := by decide +kernel
theorem d_TD_needArm_35 : decode b_TD_needArm 35 = .ok (.invokespecial 88, 3) := by decide +kernel
theorem d_TD_needArm_38 : decode b_TD_needArm 38 = .ok (.athrow, 1) := by decide +kernel
theorem d_TD_needArm_39 : decode b_TD_needArm 39 = .ok (.return_, 1) := by decide +kernel
theorem d_TD_needKit_0 : decode b_TD_needKit 0 = .ok (.iload_n 0, 1) := by decide +kernel
theorem d_TD_needKit_1 : decode b_TD_needKit 1 = .ok (.ifCond .lt 10, 3) := by decide +kernel
theorem d_TD_needKit_4 : decode b_TD_needKit 4 = .ok (.iload_n 0, 1) := by decide +kernel
theorem d_TD_needKit_5 : decode b_TD_needKit 5 = .ok (.sipush 1000, 3) := by decide +kernel
theorem d_TD_needKit_8 : decode b_TD_needKit 8 = .ok (.if_icmp .lt 11, 3) := by decide +kernel
theorem d_TD_needKit_11 : decode b_TD_needKit 11 = .ok (.new 86, 3) := by decide +kernel
theorem d_TD_needKit_14 : decode b_TD_needKit 14 = .ok (.dup, 1) := by decide +kernel
theorem d_TD_needKit_15 : decode b_TD_needKit 15 = .ok (.invokespecial 88, 3) := by decide +kernel
theorem d_TD_needKit_18 : decode b_TD_needKit 18 = .ok (.athrow, 1) := by decide +kernel
theorem d_TD_needKit_19 : decode b_TD_needKit 19 = .ok (.return_, 1) := by decide +kernel
theorem d_TD_needPerson_0 : decode b_TD_needPerson 0 = .ok (.iload_n 0, 1) := by decide +kernel
theorem d_TD_needPerson_1 : decode b_TD_needPerson 1 = .ok (.ifCond .lt 9, 3) := by decide +kernel
theorem d_TD_needPerson_4 : decode b_TD_needPerson 4 = .ok (.iload_n 0, 1) := by decide +kernel
theorem d_TD_needPerson_5 : decode b_TD_needPerson 5 = .ok (.bipush 100, 2) := by decide +kernel
theorem d_TD_needPerson_7 : decode b_TD_needPerson 7 = .ok (.if_icmp .lt 11, 3) := by decide +kernel
theorem d_TD_needPerson_10 : decode b_TD_needPerson 10 = .ok (.new 86, 3) := by decide +kernel
theorem d_TD_needPerson_13 : decode b_TD_needPerson 13 = .ok (.dup, 1) := by decide +kernel
theorem d_TD_needPerson_14 : decode b_TD_needPerson 14 = .ok (.invokespecial 88, 3) := by decide +kernel
theorem d_TD_needPerson_17 : decode b_TD_needPerson 17 = .ok (.athrow, 1) := by decide +kernel
theorem d_TD_needPerson_18 : decode b_TD_needPerson 18 = .ok (.return_, 1) := by decide +kernel
theorem d_TD_needHolder_0 : decode b_TD_needHolder 0 = .ok (.iload_n 0, 1) := by decide +kernel
theorem d_TD_needHolder_1 : decode b_TD_needHolder 1 = .ok (.ifCond .lt 8, 3) := by decide +kernel
theorem d_TD_needHolder_4 : decode b_TD_needHolder 4 = .ok (.iload_n 0, 1) := by decide +kernel
theorem d_TD_needHolder_5 : decode b_TD_needHolder 5 = .ok (.iconst 5, 1) := by decide +kernel
theorem d_TD_needHolder_6 : decode b_TD_needHolder 6 = .ok (.if_icmp .lt 11, 3) := by decide +kernel
theorem d_TD_needHolder_9 : decode b_TD_needHolder 9 = .ok (.new 86, 3) := by decide +kernel
theorem d_TD_needHolder_12 : decode b_TD_needHolder 12 = .ok (.dup, 1) := by decide +kernel
theorem d_TD_needHolder_13 : decode b_TD_needHolder 13 = .ok (.invokespecial 88, 3) := by decide +kernel
theorem d_TD_needHolder_16 : decode b_TD_needHolder 16 = .ok (.athrow, 1) := by decide +kernel
theorem d_TD_needHolder_17 : decode b_TD_needHolder 17 = .ok (.return_, 1) := by decide +kernel
theorem d_TD_needPlan_0 : decode b_TD_needPlan 0 = .ok (.aload_n 0, 1) := by decide +kernel
theorem d_TD_needPlan_1 : decode b_TD_needPlan 1 = .ok (.getfield 10, 3) := by decide +kernel
theorem d_TD_needPlan_4 : decode b_TD_needPlan 4 = .ok (.getfield 246, 3) := by decide +kernel
theorem d_TD_needPlan_7 : decode b_TD_needPlan 7 = .ok (.ifCond .ne 11, 3) := by decide +kernel
theorem d_TD_needPlan_10 : decode b_TD_needPlan 10 = .ok (.new 64, 3) := by decide +kernel
theorem d_TD_needPlan_13 : decode b_TD_needPlan 13 = .ok (.dup, 1) := by decide +kernel
theorem d_TD_needPlan_14 : decode b_TD_needPlan 14 = .ok (.invokespecial 66, 3) := by decide +kernel
theorem d_TD_needPlan_17 : decode b_TD_needPlan 17 = .ok (.athrow, 1) := by decide +kernel
theorem d_TD_needPlan_18 : decode b_TD_needPlan 18 = .ok (.return_, 1) := by decide +kernel
theorem d_TD_pickKits_0 : decode b_TD_pickKits 0 = .ok (.aload_n 2, 1) := by decide +kernel
theorem d_TD_pickKits_1 : decode b_TD_pickKits 1 = .ok (.iconst 0, 1) := by decide +kernel
theorem d_TD_pickKits_2 : decode b_TD_pickKits 2 = .ok (.invokevirtual 249, 3) := by decide +kernel
theorem d_TD_pickKits_5 : decode b_TD_pickKits 5 = .ok (.iconst (-1), 1) := by decide +kernel
theorem d_TD_pickKits_6 : decode b_TD_pickKits 6 = .ok (.if_icmp .ne 5, 3) := by decide +kernel
theorem d_TD_pickKits_9 : decode b_TD_pickKits 9 = .ok (.iconst 0, 1) := by decide +kernel
theorem d_TD_pickKits_10 : decode b_TD_pickKits 10 = .ok (.ireturn, 1) := by decide +kernel
theorem d_TD_pickKits_11 : decode b_TD_pickKits 11 = .ok (.iconst 0, 1) := by decide +kernel
theorem d_TD_pickKits_12 : decode b_TD_pickKits 12 = .ok (.istore_n 3, 1) := by decide +kernel
theorem d_TD_pickKits_13 : decode b_TD_pickKits 13 = .ok (.iload_n 3, 1) := by decide +kernel
theorem d_TD_pickKits_14 : decode b_TD_pickKits 14 = .ok (.aload_n 0, 1) := by decide +kernel
theorem d_TD_pickKits_15 : decode b_TD_pickKits 15 = .ok (.getfield 10, 3) := by decide +kernel
theorem d_TD_pickKits_18 : decode b_TD_pickKits 18 = .ok (.getfield 246, 3) := by decide +kernel
theorem d_TD_pickKits_21 : decode b_TD_pickKits 21 = .ok (.if_icmp .ge 85, 3) := by decide +kernel
theorem d_TD_pickKits_24 : decode b_TD_pickKits 24 = .ok (.iconst (-1), 1) := by decide +kernel
theorem d_TD_pickKits_25 : decode b_TD_pickKits 25 = .ok (.istore 4, 2) := by decide +kernel
theorem d_TD_pickKits_27 : decode b_TD_pickKits 27 = .ok (.iconst 0, 1) := by decide +kernel
theorem d_TD_pickKits_28 : decode b_TD_pickKits 28 = .ok (.istore 5, 2) := by decide +kernel
theorem d_TD_pickKits_30 : decode b_TD_pickKits 30 = .ok (.iload 5, 2) := by decide +kernel
theorem d_TD_pickKits_32 : decode b_TD_pickKits 32 = .ok (.aload_n 0, 1) := by decide +kernel
theorem d_TD_pickKits_33 : decode b_TD_pickKits 33 = .ok (.getfield 10, 3) := by decide +kernel
theorem d_TD_pickKits_36 : decode b_TD_pickKits 36 = .ok (.getfield 168, 3) := by decide +kernel
theorem d_TD_pickKits_39 : decode b_TD_pickKits 39 = .ok (.if_icmp .ge 61, 3) := by decide +kernel
theorem d_TD_pickKits_42 : decode b_TD_pickKits 42 = .ok (.iload 5, 2) := by decide +kernel
theorem d_TD_pickKits_44 : decode b_TD_pickKits 44 = .ok (.aload_n 0, 1) := by decide +kernel
theorem d_TD_pickKits_45 : decode b_TD_pickKits 45 = .ok (.getfield 42, 3) := by decide +kernel
theorem d_TD_pickKits_48 : decode b_TD_pickKits 48 = .ok (.arraylength, 1) := by decide +kernel
theorem d_TD_pickKits_49 : decode b_TD_pickKits 49 = .ok (.if_icmp .ge 51, 3) := by decide +kernel
theorem d_TD_pickKits_52 : decode b_TD_pickKits 52 = .ok (.aload_n 2, 1) := by decide +kernel
theorem d_TD_pickKits_53 : decode b_TD_pickKits 53 = .ok (.iload 5, 2) := by decide +kernel
theorem d_TD_pickKits_55 : decode b_TD_pickKits 55 = .ok (.invokevirtual 249, 3) := by decide +kernel
theorem d_TD_pickKits_58 : decode b_TD_pickKits 58 = .ok (.iload_n 3, 1) := by decide +kernel
theorem d_TD_pickKits_59 : decode b_TD_pickKits 59 = .ok (.if_icmp .ne 35, 3) := by decide +kernel
theorem d_TD_pickKits_62 : decode b_TD_pickKits 62 = .ok (.aload_n 0, 1) := by decide +kernel
theorem d_TD_pickKits_63 : decode b_TD_pickKits 63 = .ok (.getfield 26, 3) := by decide +kernel
theorem d_TD_pickKits_66 : decode b_TD_pickKits 66 = .ok (.iload_n 1, 1) := by decide +kernel
theorem d_TD_pickKits_67 : decode b_TD_pickKits 67 = .ok (.iload_n 3, 1) := by decide +kernel
theorem d_TD_pickKits_68 : decode b_TD_pickKits 68 = .ok (.iload 4, 2) := by decide +kernel
theorem d_TD_pickKits_70 : decode b_TD_pickKits 70 = .ok (.iconst 1, 1) := by decide +kernel
theorem d_TD_pickKits_71 : decode b_TD_pickKits 71 = .ok (.iadd, 1) := by decide +kernel
theorem d_TD_pickKits_72 : decode b_TD_pickKits 72 = .ok (.invokevirtual 138, 3) := by decide +kernel
theorem d_TD_pickKits_75 : decode b_TD_pickKits 75 = .ok (.istore 4, 2) := by decide +kernel
theorem d_TD_pickKits_77 : decode b_TD_pickKits 77 = .ok (.iload 4, 2) := by decide +kernel
theorem d_TD_pickKits_79 : decode b_TD_pickKits 79 = .ok (.iconst (-1), 1) := by decide +kernel
theorem d_TD_pickKits_80 : decode b_TD_pickKits 80 = .ok (.if_icmp .ne 5, 3) := by decide +kernel
theorem d_TD_pickKits_83 : decode b_TD_pickKits 83 = .ok (.iconst 0, 1) := by decide +kernel
theorem d_TD_pickKits_84 : decode b_TD_pickKits 84 = .ok (.ireturn, 1) := by decide +kernel
theorem d_TD_pickKits_85 : decode b_TD_pickKits 85 = .ok (.aload_n 0, 1) := by decide +kernel
theorem d_TD_pickKits_86 : decode b_TD_pickKits 86 = .ok (.getfield 42, 3) := by decide +kernel
theorem d_TD_pickKits_89 : decode b_TD_pickKits 89 = .ok (.iload 5, 2) := by decide +kernel
theorem d_TD_pickKits_91 : decode b_TD_pickKits 91 = .ok (.iload 4, 2) := by decide +kernel
theorem d_TD_pickKits_93 : decode b_TD_pickKits 93 = .ok (.iastore, 1) := by decide +kernel
theorem d_TD_pickKits_94 : decode b_TD_pickKits 94 = .ok (.iinc 5 1, 3) := by decide +kernel
theorem d_TD_pickKits_97 : decode b_TD_pickKits 97 = .ok (.goto (-67), 3) := by decide +kernel
theorem d_TD_pickKits_100 : decode b_TD_pickKits 100 = .ok (.iinc 3 1, 3) := by decide +kernel
theorem d_TD_pickKits_103 : decode b_TD_pickKits 103 = .ok (.goto (-90), 3) := by decide +kernel
theorem d_TD_pickKits_106 : decode b_TD_pickKits 106 = .ok (.iconst 1, 1) := by decide +kernel
theorem d_TD_pickKits_107 : decode b_TD_pickKits 107 = .ok (.ireturn, 1) := by decide +kernel
end
section
theorem d_Mo_init_0 : decode b_Mo_init 0 = .ok (.aload_n 0, 1) := by decide +kernel
theorem d_Mo_init_1 : decode b_Mo_init 1 = .ok (.invokespecial 1, 3) := by decide +kernel
theorem d_Mo_init_4 : decode b_Mo_init 4 = .ok (.aload_n 0, 1) := by decide +kernel
theorem d_Mo_init_5 : decode b_Mo_init 5 = .ok (.iconst 4, 1) := by decide +kernel
theorem d_Mo_init_6 : decode b_Mo_init 6 = .ok (.newarray .int, 2) := by decide +kernel
theorem d_Mo_init_8 : decode b_Mo_init 8 = .ok (.putfield 7, 3) := by decide +kernel
theorem d_Mo_init_11 : decode b_Mo_init 11 = .ok (.aload_n 0, 1) := by decide +kernel
theorem d_Mo_init_12 : decode b_Mo_init 12 = .ok (.sipush 4200, 3) := by decide +kernel
theorem d_Mo_init_15 : decode b_Mo_init 15 = .ok (.newarray .int, 2) := by decide +kernel
theorem d_Mo_init_17 : decode b_Mo_init 17 = .ok (.putfield 13, 3) := by decide +kernel
theorem d_Mo_init_20 : decode b_Mo_init 20 = .ok (.aload_n 0, 1) := by decide +kernel
theorem d_Mo_init_21 : decode b_Mo_init 21 = .ok (.ldc 16, 2) := by decide +kernel
theorem d_Mo_init_23 : decode b_Mo_init 23 = .ok (.newarray .byte, 2) := by decide +kernel
theorem d_Mo_init_25 : decode b_Mo_init 25 = .ok (.putfield 17, 3) := by decide +kernel
theorem d_Mo_init_28 : decode b_Mo_init 28 = .ok (.aload_n 0, 1) := by decide +kernel
theorem d_Mo_init_29 : decode b_Mo_init 29 = .ok (.bipush 8, 2) := by decide +kernel
theorem d_Mo_init_31 : decode b_Mo_init 31 = .ok (.newarray .int, 2) := by decide +kernel
theorem d_Mo_init_33 : decode b_Mo_init 33 = .ok (.putfield 21, 3) := by decide +kernel
theorem d_Mo_init_36 : decode b_Mo_init 36 = .ok (.aload_n 0, 1) := by decide +kernel
theorem d_Mo_init_37 : decode b_Mo_init 37 = .ok (.bipush 8, 2) := by decide +kernel
theorem d_Mo_init_39 : decode b_Mo_init 39 = .ok (.newarray .long, 2) := by decide +kernel
theorem d_Mo_init_41 : decode b_Mo_init 41 = .ok (.putfield 24, 3) := by decide +kernel
theorem d_Mo_init_44 : decode b_Mo_init 44 = .ok (.aload_n 0, 1) := by decide +kernel
theorem d_Mo_init_45 : decode b_Mo_init 45 = .ok (.bipush 8, 2) := by decide +kernel
theorem d_Mo_init_47 : decode b_Mo_init 47 = .ok (.newarray .int, 2) := by decide +kernel
theorem d_Mo_init_49 : decode b_Mo_init 49 = .ok (.putfield 28, 3) := by decide +kernel
theorem d_Mo_init_52 : decode b_Mo_init 52 = .ok (.aload_n 0, 1) := by decide +kernel
theorem d_Mo_init_53 : decode b_Mo_init 53 = .ok (.bipush 8, 2) := by decide +kernel
theorem d_Mo_init_55 : decode b_Mo_init 55 = .ok (.newarray .int, 2) := by decide +kernel
theorem d_Mo_init_57 : decode b_Mo_init 57 = .ok (.putfield 31, 3) := by decide +kernel
theorem d_Mo_init_60 : decode b_Mo_init 60 = .ok (.aload_n 0, 1) := by decide +kernel
theorem d_Mo_init_61 : decode b_Mo_init 61 = .ok (.bipush 10, 2) := by decide +kernel
theorem d_Mo_init_63 : decode b_Mo_init 63 = .ok (.newarray .int, 2) := by decide +kernel
theorem d_Mo_init_65 : decode b_Mo_init 65 = .ok (.putfield 34, 3) := by decide +kernel
theorem d_Mo_init_68 : decode b_Mo_init 68 = .ok (.aload_n 0, 1) := by decide +kernel
theorem d_Mo_init_69 : decode b_Mo_init 69 = .ok (.sipush 1000, 3) := by decide +kernel
theorem d_Mo_init_72 : decode b_Mo_init 72 = .ok (.newarray .int, 2) := by decide +kernel
theorem d_Mo_init_74 : decode b_Mo_init 74 = .ok (.putfield 37, 3) := by decide +kernel
theorem d_Mo_init_77 : decode b_Mo_init 77 = .ok (.aload_n 0, 1) := by decide +kernel
theorem d_Mo_init_78 : decode b_Mo_init 78 = .ok (.sipush 1000, 3) := by decide +kernel
theorem d_Mo_init_81 : decode b_Mo_init 81 = .ok (.newarray .int, 2) := by decide +kernel
theorem d_Mo_init_83 : decode b_Mo_init 83 = .ok (.putfield 40, 3) := by decide +kernel
theorem d_Mo_init_86 : decode b_Mo_init 86 = .ok (.aload_n 0, 1) := by decide +kernel
theorem d_Mo_init_87 : decode b_Mo_init 87 = .ok (.sipush 1000, 3) := by decide +kernel
theorem d_Mo_init_90 : decode b_Mo_init 90 = .ok (.newarray .int, 2) := by decide +kernel
theorem d_Mo_init_92 : decode b_Mo_init 92 = .ok (.putfield 43, 3) := by decide +kernel
theorem d_Mo_init_95 : decode b_Mo_init 95 = .ok (.aload_n 0, 1) := by decide +kernel
theorem d_Mo_init_96 : decode b_Mo_init 96 = .ok (.sipush 1000, 3) := by decide +kernel
theorem d_Mo_init_99 : decode b_Mo_init 99 = .ok (.newarray .int, 2) := by decide +kernel
theorem d_Mo_init_101 : decode b_Mo_init 101 = .ok (.putfield 46, 3) := by decide +kernel
theorem d_Mo_init_104 : decode b_Mo_init 104 = .ok (.aload_n 0, 1) := by decide +kernel
theorem d_Mo_init_105 : decode b_Mo_init 105 = .ok (.sipush 1000, 3) := by decide +kernel
theorem d_Mo_init_108 : decode b_Mo_init 108 = .ok (.newarray .int, 2) := by decide +kernel
theorem d_Mo_init_110 : decode b_Mo_init 110 = .ok (.putfield 49, 3) := by decide +kernel
theorem d_Mo_init_113 : decode b_Mo_init 113 = .ok (.aload_n 0, 1) := by decide +kernel
theorem d_Mo_init_114 : decode b_Mo_init 114 = .ok (.sipush 1000, 3) := by decide +kernel
theorem d_Mo_init_117 : decode b_Mo_init 117 = .ok (.newarray .int, 2) := by decide +kernel
theorem d_Mo_init_119 : decode b_Mo_init 119 = .ok (.putfield 52, 3) := by decide +kernel
theorem d_Mo_init_122 : decode b_Mo_init 122 = .ok (.aload_n 0, 1) := by decide +kernel
theorem d_Mo_init_123 : decode b_Mo_init 123 = .ok (.sipush 1000, 3) := by decide +kernel
theorem d_Mo_init_126 : decode b_Mo_init 126 = .ok (.newarray .int, 2) := by decide +kernel
theorem d_Mo_init_128 : decode b_Mo_init 128 = .ok (.putfield 55, 3) := by decide +kernel
theorem d_Mo_init_131 : decode b_Mo_init 131 = .ok (.aload_n 0, 1) := by decide +kernel
theorem d_Mo_init_132 : decode b_Mo_init 132 = .ok (.sipush 1000, 3) := by decide +kernel
theorem d_Mo_init_135 : decode b_Mo_init 135 = .ok (.newarray .int, 2) := by decide +kernel
theorem d_Mo_init_137 : decode b_Mo_init 137 = .ok (.putfield 58, 3) := by decide +kernel
theorem d_Mo_init_140 : decode b_Mo_init 140 = .ok (.aload_n 0, 1) := by decide +kernel
theorem d_Mo_init_141 : decode b_Mo_init 141 = .ok (.bipush 80, 2) := by decide +kernel
theorem d_Mo_init_143 : decode b_Mo_init 143 = .ok (.newarray .int, 2) := by decide +kernel
theorem d_Mo_init_145 : decode b_Mo_init 145 = .ok (.putfield 61, 3) := by decide +kernel
theorem d_Mo_init_148 : decode b_Mo_init 148 = .ok (.aload_n 0, 1) := by decide +kernel
theorem d_Mo_init_149 : decode b_Mo_init 149 = .ok (.bipush 80, 2) := by decide +kernel
theorem d_Mo_init_151 : decode b_Mo_init 151 = .ok (.newarray .int, 2) := by decide +kernel
theorem d_Mo_init_153 : decode b_Mo_init 153 = .ok (.putfield 64, 3) := by decide +kernel
theorem d_Mo_init_156 : decode b_Mo_init 156 = .ok (.aload_n 0, 1) := by decide +kernel
theorem d_Mo_init_157 : decode b_Mo_init 157 = .ok (.sipush 1920, 3) := by decide +kernel
theorem d_Mo_init_160 : decode b_Mo_init 160 = .ok (.newarray .int, 2) := by decide +kernel
theorem d_Mo_init_162 : decode b_Mo_init 162 = .ok (.putfield 67, 3) := by decide +kernel
theorem d_Mo_init_165 : decode b_Mo_init 165 = .ok (.iconst 0, 1) := by decide +kernel
theorem d_Mo_init_166 : decode b_Mo_init 166 = .ok (.istore_n 1, 1) := by decide +kernel
theorem d_Mo_init_167 : decode b_Mo_init 167 = .ok (.iload_n 1, 1) := by decide +kernel
theorem d_Mo_init_168 : decode b_Mo_init 168 = .ok (.bipush 8, 2) := by decide +kernel
theorem d_Mo_init_170 : decode b_Mo_init 170 = .ok (.if_icmp .ge 16, 3) := by decide +kernel
theorem d_Mo_init_173 : decode b_Mo_init 173 = .ok (.aload_n 0, 1) := by decide +kernel
theorem d_Mo_init_174 : decode b_Mo_init 174 = .ok (.getfield 28, 3) := by decide +kernel
theorem d_Mo_init_177 : decode b_Mo_init 177 = .ok (.iload_n 1, 1) := by decide +kernel
theorem d_Mo_init_178 : decode b_Mo_init 178 = .ok (.iconst (-1), 1) := by decide +kernel
theorem d_Mo_init_179 : decode b_Mo_init 179 = .ok (.iastore, 1) := by decide +kernel
theorem d_Mo_init_180 : decode b_Mo_init 180 = .ok (.iinc 1 1, 3) := by decide +kernel
theorem d_Mo_init_183 : decode b_Mo_init 183 = .ok (.goto (-16), 3) := by decide +kernel
theorem d_Mo_init_186 : decode b_Mo_init 186 = .ok (.iconst 0, 1) := by decide +kernel
theorem d_Mo_init_187 : decode b_Mo_init 187 = .ok (.istore_n 1, 1) := by decide +kernel
theorem d_Mo_init_188 : decode b_Mo_init 188 = .ok (.iload_n 1, 1) := by decide +kernel
theorem d_Mo_init_189 : decode b_Mo_init 189 = .ok (.sipush 1000, 3) := by decide +kernel
theorem d_Mo_init_192 : decode b_Mo_init 192 = .ok (.if_icmp .ge 16, 3) := by decide +kernel
theorem d_Mo_init_195 : decode b_Mo_init 195 = .ok (.aload_n 0, 1) := by decide +kernel
theorem d_Mo_init_196 : decode b_Mo_init 196 = .ok (.getfield 37, 3) := by decide +kernel
theorem d_Mo_init_199 : decode b_Mo_init 199 = .ok (.iload_n 1, 1) := by decide +kernel
theorem d_Mo_init_200 : decode b_Mo_init 200 = .ok (.iconst (-1), 1) := by decide +kernel
theorem d_Mo_init_201 : decode b_Mo_init 201 = .ok (.iastore, 1) := by decide +kernel
theorem d_Mo_init_202 : decode b_Mo_init 202 = .ok (.iinc 1 1, 3) := by decide +kernel
theorem d_Mo_init_205 : decode b_Mo_init 205 = .ok (.goto (-17), 3) := by decide +kernel
theorem d_Mo_init_208 : decode b_Mo_init 208 = .ok (.iconst 0, 1) := by decide +kernel
theorem d_Mo_init_209 : decode b_Mo_init 209 = .ok (.istore_n 1, 1) := by decide +kernel
theorem d_Mo_init_210 : decode b_Mo_init 210 = .ok (.iload_n 1, 1) := by decide +kernel
theorem d_Mo_init_211 : decode b_Mo_init 211 = .ok (.bipush 80, 2) := by decide +kernel
theorem d_Mo_init_213 : decode b_Mo_init 213 = .ok (.if_icmp .ge 16, 3) := by decide +kernel
theorem d_Mo_init_216 : decode b_Mo_init 216 = .ok (.aload_n 0, 1) := by decide +kernel
theorem d_Mo_init_217 : decode b_Mo_init 217 = .ok (.getfield 61, 3) := by decide +kernel
theorem d_Mo_init_220 : decode b_Mo_init 220 = .ok (.iload_n 1, 1) := by decide +kernel
theorem d_Mo_init_221 : decode b_Mo_init 221 = .ok (.iconst (-1), 1) := by decide +kernel
theorem d_Mo_init_222 : decode b_Mo_init 222 = .ok (.iastore, 1) := by decide +kernel
theorem d_Mo_init_223 : decode b_Mo_init 223 = .ok (.iinc 1 1, 3) := by decide +kernel
theorem d_Mo_init_226 : decode b_Mo_init 226 = .ok (.goto (-16), 3) := by decide +kernel
theorem d_Mo_init_229 : decode b_Mo_init 229 = .ok (.return_, 1) := by decide +kernel
theorem d_Mo_thrown_0 : decode b_Mo_thrown 0 = .ok (.aload_n 0, 1) := by decide +kernel
theorem d_Mo_thrown_1 : decode b_Mo_thrown 1 = .ok (.getfield 70, 3) := by decide +kernel
theorem d_Mo_thrown_4 : decode b_Mo_thrown 4 = .ok (.ireturn, 1) := by decide +kernel
theorem d_Mo_refused_0 : decode b_Mo_refused 0 = .ok (.aload_n 0, 1) := by decide +kernel
theorem d_Mo_refused_1 : decode b_Mo_refused 1 = .ok (.iload_n 1, 1) := by decide +kernel
theorem d_Mo_refused_2 : decode b_Mo_refused 2 = .ok (.ifCond .eq 7, 3) := by decide +kernel
theorem d_Mo_refused_5 : decode b_Mo_refused 5 = .ok (.iconst 1, 1) := by decide +kernel
theorem d_Mo_refused_6 : decode b_Mo_refused 6 = .ok (.goto 20, 3) := by decide +kernel
theorem d_Mo_refused_9 : decode b_Mo_refused 9 = .ok (.iload_n 2, 1) := by decide +kernel
theorem d_Mo_refused_10 : decode b_Mo_refused 10 = .ok (.ifCond .eq 7, 3) := by decide +kernel
theorem d_Mo_refused_13 : decode b_Mo_refused 13 = .ok (.iconst 2, 1) := by decide +kernel
theorem d_Mo_refused_14 : decode b_Mo_refused 14 = .ok (.goto 12, 3) := by decide +kernel
theorem d_Mo_refused_17 : decode b_Mo_refused 17 = .ok (.iload_n 3, 1) := by decide +kernel
theorem d_Mo_refused_18 : decode b_Mo_refused 18 = .ok (.ifCond .eq 7, 3) := by decide +kernel
theorem d_Mo_refused_21 : decode b_Mo_refused 21 = .ok (.iconst 3, 1) := by decide +kernel
theorem d_Mo_refused_22 : decode b_Mo_refused 22 = .ok (.goto 4, 3) := by decide +kernel
theorem d_Mo_refused_25 : decode b_Mo_refused 25 = .ok (.iconst 0, 1) := by decide +kernel
theorem d_Mo_refused_26 : decode b_Mo_refused 26 = .ok (.putfield 70, 3) := by decide +kernel
theorem d_Mo_refused_29 : decode b_Mo_refused 29 = .ok (.aload_n 0, 1) := by decide +kernel
theorem d_Mo_refused_30 : decode b_Mo_refused 30 = .ok (.getfield 70, 3) := by decide +kernel
theorem d_Mo_refused_33 : decode b_Mo_refused 33 = .ok (.ifCond .le 7, 3) := by decide +kernel
theorem d_Mo_refused_36 : decode b_Mo_refused 36 = .ok (.iconst 1, 1) := by decide +kernel
theorem d_Mo_refused_37 : decode b_Mo_refused 37 = .ok (.goto 4, 3) := by decide +kernel
theorem d_Mo_refused_40 : decode b_Mo_refused 40 = .ok (.iconst 0, 1) := by decide +kernel
theorem d_Mo_refused_41 : decode b_Mo_refused 41 = .ok (.ireturn, 1) := by decide +kernel
theorem d_Mo_within_0 : decode b_Mo_within 0 = .ok (.iload_n 0, 1) := by decide +kernel
theorem d_Mo_within_1 : decode b_Mo_within 1 = .ok (.iload_n 1, 1) := by decide +kernel
theorem d_Mo_within_2 : decode b_Mo_within 2 = .ok (.if_icmp .lt 12, 3) := by decide +kernel
theorem d_Mo_within_5 : decode b_Mo_within 5 = .ok (.iload_n 0, 1) := by decide +kernel
theorem d_Mo_within_6 : decode b_Mo_within 6 = .ok (.iload_n 2, 1) := by decide +kernel
theorem d_Mo_within_7 : decode b_Mo_within 7 = .ok (.if_icmp .gt 7, 3) := by decide +kernel
theorem d_Mo_within_10 : decode b_Mo_within 10 = .ok (.iconst 1, 1) := by decide +kernel
theorem d_Mo_within_11 : decode b_Mo_within 11 = .ok (.goto 4, 3) := by decide +kernel
theorem d_Mo_within_14 : decode b_Mo_within 14 = .ok (.iconst 0, 1) := by decide +kernel
theorem d_Mo_within_15 : decode b_Mo_within 15 = .ok (.ireturn, 1) := by decide +kernel
theorem d_Mo_isSite_0 : decode b_Mo_isSite 0 = .ok (.iload_n 1, 1) := by decide +kernel
theorem d_Mo_isSite_1 : decode b_Mo_isSite 1 = .ok (.iconst 0, 1) := by decide +kernel
theorem d_Mo_isSite_2 : decode b_Mo_isSite 2 = .ok (.bipush 9, 2) := by decide +kernel
theorem d_Mo_isSite_4 : decode b_Mo_isSite 4 = .ok (.invokestatic 74, 3) := by decide +kernel
theorem d_Mo_isSite_7 : decode b_Mo_isSite 7 = .ok (.ifCond .eq 16, 3) := by decide +kernel
theorem d_Mo_isSite_10 : decode b_Mo_isSite 10 = .ok (.aload_n 0, 1) := by decide +kernel
theorem d_Mo_isSite_11 : decode b_Mo_isSite 11 = .ok (.getfield 34, 3) := by decide +kernel
theorem d_Mo_isSite_14 : decode b_Mo_isSite 14 = .ok (.iload_n 1, 1) := by decide +kernel
theorem d_Mo_isSite_15 : decode b_Mo_isSite 15 = .ok (.iaload, 1) := by decide +kernel
theorem d_Mo_isSite_16 : decode b_Mo_isSite 16 = .ok (.ifCond .le 7, 3) := by decide +kernel
theorem d_Mo_isSite_19 : decode b_Mo_isSite 19 = .ok (.iconst 1, 1) := by decide +kernel
theorem d_Mo_isSite_20 : decode b_Mo_isSite 20 = .ok (.goto 4, 3) := by decide +kernel
theorem d_Mo_isSite_23 : decode b_Mo_isSite 23 = .ok (.iconst 0, 1) := by decide +kernel
theorem d_Mo_isSite_24 : decode b_Mo_isSite 24 = .ok (.ireturn, 1) := by decide +kernel
theorem d_Mo_isStratum_0 : decode b_Mo_isStratum 0 = .ok (.iload_n 0, 1) := by decide +kernel
theorem d_Mo_isStratum_1 : decode b_Mo_isStratum 1 = .ok (.iconst 0, 1) := by decide +kernel
theorem d_Mo_isStratum_2 : decode b_Mo_isStratum 2 = .ok (.bipush 7, 2) := by decide +kernel
theorem d_Mo_isStratum_4 : decode b_Mo_isStratum 4 = .ok (.invokestatic 74, 3) := by decide +kernel
theorem d_Mo_isStratum_7 : decode b_Mo_isStratum 7 = .ok (.ireturn, 1) := by decide +kernel
theorem d_Mo_isPerson_0 : decode b_Mo_isPerson 0 = .ok (.aload_n 0, 1) := by decide +kernel
theorem d_Mo_isPerson_1 : decode b_Mo_isPerson 1 = .ok (.iload_n 1, 1) := by decide +kernel
theorem d_Mo_isPerson_2 : decode b_Mo_isPerson 2 = .ok (.invokevirtual 78, 3) := by decide +kernel
theorem d_Mo_isPerson_5 : decode b_Mo_isPerson 5 = .ok (.ifCond .eq 17, 3) := by decide +kernel
theorem d_Mo_isPerson_8 : decode b_Mo_isPerson 8 = .ok (.iload_n 2, 1) := by decide +kernel
theorem d_Mo_isPerson_9 : decode b_Mo_isPerson 9 = .ok (.iconst 0, 1) := by decide +kernel
theorem d_Mo_isPerson_10 : decode b_Mo_isPerson 10 = .ok (.bipush 99, 2) := by decide +kernel
theorem d_Mo_isPerson_12 : decode b_Mo_isPerson 12 = .ok (.invokestatic 74, 3) := by decide +kernel
theorem d_Mo_isPerson_15 : decode b_Mo_isPerson 15 = .ok (.ifCond .eq 7, 3) := by decide +kernel
theorem d_Mo_isPerson_18 : decode b_Mo_isPerson 18 = .ok (.iconst 1, 1) := by decide +kernel
theorem d_Mo_isPerson_19 : decode b_Mo_isPerson 19 = .ok (.goto 4, 3) := by decide +kernel
theorem d_Mo_isPerson_22 : decode b_Mo_isPerson 22 = .ok (.iconst 0, 1) := by decide +kernel
theorem d_Mo_isPerson_23 : decode b_Mo_isPerson 23 = .ok (.ireturn, 1) := by decide +kernel
theorem d_Mo_isArm_0 : decode b_Mo_isArm 0 = .ok (.iload_n 1, 1) := by decide +kernel
theorem d_Mo_isArm_1 : decode b_Mo_isArm 1 = .ok (.iconst 0, 1) := by decide +kernel
theorem d_Mo_isArm_2 : decode b_Mo_isArm 2 = .ok (.aload_n 0, 1) := by decide +kernel
theorem d_Mo_isArm_3 : decode b_Mo_isArm 3 = .ok (.getfield 82, 3) := by decide +kernel
theorem d_Mo_isArm_6 : decode b_Mo_isArm 6 = .ok (.ifCond .ne 7, 3) := by decide +kernel
theorem d_Mo_isArm_9 : decode b_Mo_isArm 9 = .ok (.iconst 3, 1) := by decide +kernel
theorem d_Mo_isArm_10 : decode b_Mo_isArm 10 = .ok (.goto 9, 3) := by decide +kernel
theorem d_Mo_isArm_13 : decode b_Mo_isArm 13 = .ok (.aload_n 0, 1) := by decide +kernel
theorem d_Mo_isArm_14 : decode b_Mo_isArm 14 = .ok (.getfield 82, 3) := by decide +kernel
theorem d_Mo_isArm_17 : decode b_Mo_isArm 17 = .ok (.iconst 1, 1) := by decide +kernel
theorem d_Mo_isArm_18 : decode b_Mo_isArm 18 = .ok (.isub, 1) := by decide +kernel
theorem d_Mo_isArm_19 : decode b_Mo_isArm 19 = .ok (.invokestatic 74, 3) := by decide +kernel
theorem d_Mo_isArm_22 : decode b_Mo_isArm 22 = .ok (.ireturn, 1) := by decide +kernel
theorem d_Mo_writes_0 : decode b_Mo_writes 0 = .ok (.aload_n 0, 1) := by decide +kernel
theorem d_Mo_writes_1 : decode b_Mo_writes 1 = .ok (.getfield 85, 3) := by decide +kernel
theorem d_Mo_writes_4 : decode b_Mo_writes 4 = .ok (.ifCond .eq 15, 3) := by decide +kernel
theorem d_Mo_writes_7 : decode b_Mo_writes 7 = .ok (.aload_n 0, 1) := by decide +kernel
theorem d_Mo_writes_8 : decode b_Mo_writes 8 = .ok (.iconst 0, 1) := by decide +kernel
theorem d_Mo_writes_9 : decode b_Mo_writes 9 = .ok (.putfield 85, 3) := by decide +kernel
theorem d_Mo_writes_12 : decode b_Mo_writes 12 = .ok (.aload_n 0, 1) := by decide +kernel
theorem d_Mo_writes_13 : decode b_Mo_writes 13 = .ok (.iconst 1, 1) := by decide +kernel
theorem d_Mo_writes_14 : decode b_Mo_writes 14 = .ok (.putfield 89, 3) := by decide +kernel
theorem d_Mo_writes_17 : decode b_Mo_writes 17 = .ok (.iconst 0, 1) := by decide +kernel
theorem d_Mo_writes_18 : decode b_Mo_writes 18 = .ok (.ireturn, 1) := by decide +kernel
theorem d_Mo_writes_19 : decode b_Mo_writes 19 = .ok (.aload_n 0, 1) := by decide +kernel
theorem d_Mo_writes_20 : decode b_Mo_writes 20 = .ok (.dup, 1) := by decide +kernel
theorem d_Mo_writes_21 : decode b_Mo_writes 21 = .ok (.getfield 92, 3) := by decide +kernel
theorem d_Mo_writes_24 : decode b_Mo_writes 24 = .ok (.iconst 1, 1) := by decide +kernel
theorem d_Mo_writes_25 : decode b_Mo_writes 25 = .ok (.iadd, 1) := by decide +kernel
theorem d_Mo_writes_26 : decode b_Mo_writes 26 = .ok (.putfield 92, 3) := by decide +kernel
theorem d_Mo_writes_29 : decode b_Mo_writes 29 = .ok (.iconst 1, 1) := by decide +kernel
theorem d_Mo_writes_30 : decode b_Mo_writes 30 = .ok (.ireturn, 1) := by decide +kernel
theorem d_Mo_arms_0 : decode b_Mo_arms 0 = .ok (.iload_n 1, 1) := by decide +kernel
theorem d_Mo_arms_1 : decode b_Mo_arms 1 = .ok (.iconst 1, 1) := by decide +kernel
theorem d_Mo_arms_2 : decode b_Mo_arms 2 = .ok (.iconst 3, 1) := by decide +kernel
theorem d_Mo_arms_3 : decode b_Mo_arms 3 = .ok (.invokestatic 74, 3) := by decide +kernel
theorem d_Mo_arms_6 : decode b_Mo_arms 6 = .ok (.ifCond .eq 51, 3) := by decide +kernel
theorem d_Mo_arms_9 : decode b_Mo_arms 9 = .ok (.iload_n 2, 1) := by decide +kernel
theorem d_Mo_arms_10 : decode b_Mo_arms 10 = .ok (.iconst 1, 1) := by decide +kernel
theorem d_Mo_arms_11 : decode b_Mo_arms 11 = .ok (.iconst 3, 1) := by decide +kernel
theorem d_Mo_arms_12 : decode b_Mo_arms 12 = .ok (.invokestatic 74, 3) := by decide +kernel
theorem d_Mo_arms_15 : decode b_Mo_arms 15 = .ok (.ifCond .eq 42, 3) := by decide +kernel
theorem d_Mo_arms_18 : decode b_Mo_arms 18 = .ok (.iload_n 3, 1) := by decide +kernel
theorem d_Mo_arms_19 : decode b_Mo_arms 19 = .ok (.iconst 0, 1) := by decide +kernel
theorem d_Mo_arms_20 : decode b_Mo_arms 20 = .ok (.iconst 3, 1) := by decide +kernel
theorem d_Mo_arms_21 : decode b_Mo_arms 21 = .ok (.invokestatic 74, 3) := by decide +kernel
theorem d_Mo_arms_24 : decode b_Mo_arms 24 = .ok (.ifCond .eq 33, 3) := by decide +kernel
theorem d_Mo_arms_27 : decode b_Mo_arms 27 = .ok (.iload 4, 2) := by decide +kernel
theorem d_Mo_arms_29 : decode b_Mo_arms 29 = .ok (.iconst 0, 1) := by decide +kernel
theorem d_Mo_arms_30 : decode b_Mo_arms 30 = .ok (.iconst 3, 1) := by decide +kernel
theorem d_Mo_arms_31 : decode b_Mo_arms 31 = .ok (.invokestatic 74, 3) := by decide +kernel
theorem d_Mo_arms_34 : decode b_Mo_arms 34 = .ok (.ifCond .eq 23, 3) := by decide +kernel
theorem d_Mo_arms_37 : decode b_Mo_arms 37 = .ok (.iload_n 3, 1) := by decide +kernel
theorem d_Mo_arms_38 : decode b_Mo_arms 38 = .ok (.ifCond .ne 8, 3) := by decide +kernel
theorem d_Mo_arms_41 : decode b_Mo_arms 41 = .ok (.iload 4, 2) := by decide +kernel
theorem d_Mo_arms_43 : decode b_Mo_arms 43 = .ok (.ifCond .gt 14, 3) := by decide +kernel
theorem d_Mo_arms_46 : decode b_Mo_arms 46 = .ok (.iload 5, 2) := by decide +kernel
theorem d_Mo_arms_48 : decode b_Mo_arms 48 = .ok (.iconst 1, 1) := by decide +kernel
theorem d_Mo_arms_49 : decode b_Mo_arms 49 = .ok (.bipush 24, 2) := by decide +kernel
theorem d_Mo_arms_51 : decode b_Mo_arms 51 = .ok (.invokestatic 74, 3) := by decide +kernel
theorem d_Mo_arms_54 : decode b_Mo_arms 54 = .ok (.ifCond .ne 7, 3) := by decide +kernel
theorem d_Mo_arms_57 : decode b_Mo_arms 57 = .ok (.iconst 1, 1) := by decide +kernel
theorem d_Mo_arms_58 : decode b_Mo_arms 58 = .ok (.goto 4, 3) := by decide +kernel
theorem d_Mo_arms_61 : decode b_Mo_arms 61 = .ok (.iconst 0, 1) := by decide +kernel
theorem d_Mo_arms_62 : decode b_Mo_arms 62 = .ok (.istore 8, 2) := by decide +kernel
theorem d_Mo_arms_64 : decode b_Mo_arms 64 = .ok (.iload 8, 2) := by decide +kernel
theorem d_Mo_arms_66 : decode b_Mo_arms 66 = .ok (.ifCond .ne 17, 3) := by decide +kernel
theorem d_Mo_arms_69 : decode b_Mo_arms 69 = .ok (.iload 5, 2) := by decide +kernel
theorem d_Mo_arms_71 : decode b_Mo_arms 71 = .ok (.iload_n 1, 1) := by decide +kernel
theorem d_Mo_arms_72 : decode b_Mo_arms 72 = .ok (.iload_n 2, 1) := by decide +kernel
theorem d_Mo_arms_73 : decode b_Mo_arms 73 = .ok (.iadd, 1) := by decide +kernel
theorem d_Mo_arms_74 : decode b_Mo_arms 74 = .ok (.iload_n 3, 1) := by decide +kernel
theorem d_Mo_arms_75 : decode b_Mo_arms 75 = .ok (.iadd, 1) := by decide +kernel
theorem d_Mo_arms_76 : decode b_Mo_arms 76 = .ok (.iload 4, 2) := by decide +kernel
theorem d_Mo_arms_78 : decode b_Mo_arms 78 = .ok (.iadd, 1) := by decide +kernel
theorem d_Mo_arms_79 : decode b_Mo_arms 79 = .ok (.irem, 1) := by decide +kernel
theorem d_Mo_arms_80 : decode b_Mo_arms 80 = .ok (.ifCond .eq 7, 3) := by decide +kernel
theorem d_Mo_arms_83 : decode b_Mo_arms 83 = .ok (.iconst 1, 1) := by decide +kernel
theorem d_Mo_arms_84 : decode b_Mo_arms 84 = .ok (.goto 4, 3) := by decide +kernel
theorem d_Mo_arms_87 : decode b_Mo_arms 87 = .ok (.iconst 0, 1) := by decide +kernel
theorem d_Mo_arms_88 : decode b_Mo_arms 88 = .ok (.istore 8, 2) := by decide +kernel
theorem d_Mo_arms_90 : decode b_Mo_arms 90 = .ok (.aload_n 0, 1) := by decide +kernel
theorem d_Mo_arms_91 : decode b_Mo_arms 91 = .ok (.iload 8, 2) := by decide +kernel
theorem d_Mo_arms_93 : decode b_Mo_arms 93 = .ok (.aload_n 0, 1) := by decide +kernel
theorem d_Mo_arms_94 : decode b_Mo_arms 94 = .ok (.getfield 95, 3) := by decide +kernel
theorem d_Mo_arms_97 : decode b_Mo_arms 97 = .ok (.ifCond .le 7, 3) := by decide +kernel
theorem d_Mo_arms_100 : decode b_Mo_arms 100 = .ok (.iconst 1, 1) := by decide +kernel
theorem d_Mo_arms_101 : decode b_Mo_arms 101 = .ok (.goto 4, 3) := by decide +kernel
theorem d_Mo_arms_104 : decode b_Mo_arms 104 = .ok (.iconst 0, 1) := by decide +kernel
theorem d_Mo_arms_105 : decode b_Mo_arms 105 = .ok (.iconst 0, 1) := by decide +kernel
theorem d_Mo_arms_106 : decode b_Mo_arms 106 = .ok (.invokevirtual 98, 3) := by decide +kernel
theorem d_Mo_arms_109 : decode b_Mo_arms 109 = .ok (.ifCond .ne 17, 3) := by decide +kernel
theorem d_Mo_arms_112 : decode b_Mo_arms 112 = .ok (.aload_n 0, 1) := by decide +kernel
theorem d_Mo_arms_113 : decode b_Mo_arms 113 = .ok (.getfield 89, 3) := by decide +kernel
theorem d_Mo_arms_116 : decode b_Mo_arms 116 = .ok (.ifCond .ne 10, 3) := by decide +kernel
theorem d_Mo_arms_119 : decode b_Mo_arms 119 = .ok (.aload_n 0, 1) := by decide +kernel
theorem d_Mo_arms_120 : decode b_Mo_arms 120 = .ok (.invokevirtual 102, 3) := by decide +kernel
theorem d_Mo_arms_123 : decode b_Mo_arms 123 = .ok (.ifCond .ne 4, 3) := by decide +kernel
theorem d_Mo_arms_126 : decode b_Mo_arms 126 = .ok (.return_, 1) := by decide +kernel
theorem d_Mo_arms_127 : decode b_Mo_arms 127 = .ok (.aload_n 0, 1) := by decide +kernel
theorem d_Mo_arms_128 : decode b_Mo_arms 128 = .ok (.getfield 7, 3) := by decide +kernel
theorem d_Mo_arms_131 : decode b_Mo_arms 131 = .ok (.iconst 0, 1) := by decide +kernel
theorem d_Mo_arms_132 : decode b_Mo_arms 132 = .ok (.iload_n 1, 1) := by decide +kernel
theorem d_Mo_arms_133 : decode b_Mo_arms 133 = .ok (.iastore, 1) := by decide +kernel
theorem d_Mo_arms_134 : decode b_Mo_arms 134 = .ok (.aload_n 0, 1) := by decide +kernel
theorem d_Mo_arms_135 : decode b_Mo_arms 135 = .ok (.getfield 7, 3) := by decide +kernel
theorem d_Mo_arms_138 : decode b_Mo_arms 138 = .ok (.iconst 1, 1) := by decide +kernel
theorem d_Mo_arms_139 : decode b_Mo_arms 139 = .ok (.iload_n 2, 1) := by decide +kernel
theorem d_Mo_arms_140 : decode b_Mo_arms 140 = .ok (.iastore, 1) := by decide +kernel
theorem d_Mo_arms_141 : decode b_Mo_arms 141 = .ok (.aload_n 0, 1) := by decide +kernel
theorem d_Mo_arms_142 : decode b_Mo_arms 142 = .ok (.getfield 7, 3) := by decide +kernel
theorem d_Mo_arms_145 : decode b_Mo_arms 145 = .ok (.iconst 2, 1) := by decide +kernel
theorem d_Mo_arms_146 : decode b_Mo_arms 146 = .ok (.iload_n 3, 1) := by decide +kernel
theorem d_Mo_arms_147 : decode b_Mo_arms 147 = .ok (.iastore, 1) := by decide +kernel
theorem d_Mo_arms_148 : decode b_Mo_arms 148 = .ok (.aload_n 0, 1) := by decide +kernel
theorem d_Mo_arms_149 : decode b_Mo_arms 149 = .ok (.getfield 7, 3) := by decide +kernel
theorem d_Mo_arms_152 : decode b_Mo_arms 152 = .ok (.iconst 3, 1) := by decide +kernel
theorem d_Mo_arms_153 : decode b_Mo_arms 153 = .ok (.iload 4, 2) := by decide +kernel
theorem d_Mo_arms_155 : decode b_Mo_arms 155 = .ok (.iastore, 1) := by decide +kernel
theorem d_Mo_arms_156 : decode b_Mo_arms 156 = .ok (.aload_n 0, 1) := by decide +kernel
theorem d_Mo_arms_157 : decode b_Mo_arms 157 = .ok (.iload 4, 2) := by decide +kernel
theorem d_Mo_arms_159 : decode b_Mo_arms 159 = .ok (.ifCond .le 7, 3) := by decide +kernel
theorem d_Mo_arms_162 : decode b_Mo_arms 162 = .ok (.iconst 4, 1) := by decide +kernel
theorem d_Mo_arms_163 : decode b_Mo_arms 163 = .ok (.goto 12, 3) := by decide +kernel
theorem d_Mo_arms_166 : decode b_Mo_arms 166 = .ok (.iload_n 3, 1) := by decide +kernel
theorem d_Mo_arms_167 : decode b_Mo_arms 167 = .ok (.ifCond .le 7, 3) := by decide +kernel
theorem d_Mo_arms_170 : decode b_Mo_arms 170 = .ok (.iconst 3, 1) := by decide +kernel
theorem d_Mo_arms_171 : decode b_Mo_arms 171 = .ok (.goto 4, 3) := by decide +kernel
theorem d_Mo_arms_174 : decode b_Mo_arms 174 = .ok (.iconst 2, 1) := by decide +kernel
theorem d_Mo_arms_175 : decode b_Mo_arms 175 = .ok (.putfield 82, 3) := by decide +kernel
theorem d_Mo_arms_178 : decode b_Mo_arms 178 = .ok (.aload_n 0, 1) := by decide +kernel
theorem d_Mo_arms_179 : decode b_Mo_arms 179 = .ok (.iload 5, 2) := by decide +kernel
theorem d_Mo_arms_181 : decode b_Mo_arms 181 = .ok (.putfield 106, 3) := by decide +kernel
theorem d_Mo_arms_184 : decode b_Mo_arms 184 = .ok (.aload_n 0, 1) := by decide +kernel
theorem d_Mo_arms_185 : decode b_Mo_arms 185 = .ok (.lload 6, 2) := by decide +kernel
theorem d_Mo_arms_187 : decode b_Mo_arms 187 = .ok (.putfield 109, 3) := by decide +kernel
theorem d_Mo_arms_190 : decode b_Mo_arms 190 = .ok (.iconst 0, 1) := by decide +kernel
theorem d_Mo_arms_191 : decode b_Mo_arms 191 = .ok (.istore 9, 2) := by decide +kernel
theorem d_Mo_arms_193 : decode b_Mo_arms 193 = .ok (.iload 9, 2) := by decide +kernel
theorem d_Mo_arms_195 : decode b_Mo_arms 195 = .ok (.bipush 8, 2) := by decide +kernel
theorem d_Mo_arms_197 : decode b_Mo_arms 197 = .ok (.if_icmp .ge 45, 3) := by decide +kernel
theorem d_Mo_arms_200 : decode b_Mo_arms 200 = .ok (.aload_n 0, 1) := by decide +kernel
theorem d_Mo_arms_201 : decode b_Mo_arms 201 = .ok (.getfield 109, 3) := by decide +kernel
theorem d_Mo_arms_204 : decode b_Mo_arms 204 = .ok (.iload 9, 2) := by decide +kernel
theorem d_Mo_arms_206 : decode b_Mo_arms 206 = .ok (.iconst 1, 1) := by decide +kernel
theorem d_Mo_arms_207 : decode b_Mo_arms 207 = .ok (.iadd, 1) := by decide +kernel
theorem d_Mo_arms_208 : decode b_Mo_arms 208 = .ok (.i2l, 1) := by decide +kernel
theorem d_Mo_arms_209 : decode b_Mo_arms 209 = .ok (.ldc2_w 113, 3) := by decide +kernel
theorem d_Mo_arms_212 : decode b_Mo_arms 212 = .ok (.lmul, 1) := by decide +kernel
theorem d_Mo_arms_213 : decode b_Mo_arms 213 = .ok (.lxor, 1) := by decide +kernel
theorem d_Mo_arms_214 : decode b_Mo_arms 214 = .ok (.lstore 10, 2) := by decide +kernel
theorem d_Mo_arms_216 : decode b_Mo_arms 216 = .ok (.aload_n 0, 1) := by decide +kernel
theorem d_Mo_arms_217 : decode b_Mo_arms 217 = .ok (.getfield 24, 3) := by decide +kernel
theorem d_Mo_arms_220 : decode b_Mo_arms 220 = .ok (.iload 9, 2) := by decide +kernel
theorem d_Mo_arms_222 : decode b_Mo_arms 222 = .ok (.lload 10, 2) := by decide +kernel
theorem d_Mo_arms_224 : decode b_Mo_arms 224 = .ok (.lconst 0, 1) := by decide +kernel
theorem d_Mo_arms_225 : decode b_Mo_arms 225 = .ok (.lcmp, 1) := by decide +kernel
theorem d_Mo_arms_226 : decode b_Mo_arms 226 = .ok (.ifCond .ne 7, 3) := by decide +kernel
theorem d_Mo_arms_229 : decode b_Mo_arms 229 = .ok (.lconst 1, 1) := by decide +kernel
theorem d_Mo_arms_230 : decode b_Mo_arms 230 = .ok (.goto 5, 3) := by decide +kernel
theorem d_Mo_arms_233 : decode b_Mo_arms 233 = .ok (.lload 10, 2) := by decide +kernel
theorem d_Mo_arms_235 : decode b_Mo_arms 235 = .ok (.lastore, 1) := by decide +kernel
theorem d_Mo_arms_236 : decode b_Mo_arms 236 = .ok (.iinc 9 1, 3) := by decide +kernel
theorem d_Mo_arms_239 : decode b_Mo_arms 239 = .ok (.goto (-46), 3) := by decide +kernel
theorem d_Mo_arms_242 : decode b_Mo_arms 242 = .ok (.return_, 1) := by decide +kernel
theorem d_Mo_draw_0 : decode b_Mo_draw 0 = .ok (.ldc2_w 115, 3) := by decide +kernel
theorem d_Mo_draw_3 : decode b_Mo_draw 3 = .ok (.iload_n 2, 1) := by decide +kernel
theorem d_Mo_draw_4 : decode b_Mo_draw 4 = .ok (.i2l, 1) := by decide +kernel
theorem d_Mo_draw_5 : decode b_Mo_draw 5 = .ok (.ldiv, 1) := by decide +kernel
theorem d_Mo_draw_6 : decode b_Mo_draw 6 = .ok (.iload_n 2, 1) := by decide +kernel
theorem d_Mo_draw_7 : decode b_Mo_draw 7 = .ok (.i2l, 1) := by decide +kernel
theorem d_Mo_draw_8 : decode b_Mo_draw 8 = .ok (.lmul, 1) := by decide +kernel
theorem d_Mo_draw_9 : decode b_Mo_draw 9 = .ok (.lstore_n 3, 1) := by decide +kernel
theorem d_Mo_draw_10 : decode b_Mo_draw 10 = .ok (.lload_n 3, 1) := by decide +kernel
theorem d_Mo_draw_11 : decode b_Mo_draw 11 = .ok (.lstore 5, 2) := by decide +kernel
theorem d_Mo_draw_13 : decode b_Mo_draw 13 = .ok (.lload 5, 2) := by decide +kernel
theorem d_Mo_draw_15 : decode b_Mo_draw 15 = .ok (.lload_n 3, 1) := by decide +kernel
theorem d_Mo_draw_16 : decode b_Mo_draw 16 = .ok (.lcmp, 1) := by decide +kernel
theorem d_Mo_draw_17 : decode b_Mo_draw 17 = .ok (.ifCond .lt 59, 3) := by decide +kernel
theorem d_Mo_draw_20 : decode b_Mo_draw 20 = .ok (.aload_n 0, 1) := by decide +kernel
theorem d_Mo_draw_21 : decode b_Mo_draw 21 = .ok (.getfield 24, 3) := by decide +kernel
theorem d_Mo_draw_24 : decode b_Mo_draw 24 = .ok (.iload_n 1, 1) := by decide +kernel
theorem d_Mo_draw_25 : decode b_Mo_draw 25 = .ok (.laload, 1) := by decide +kernel
theorem d_Mo_draw_26 : decode b_Mo_draw 26 = .ok (.lstore 7, 2) := by decide +kernel
theorem d_Mo_draw_28 : decode b_Mo_draw 28 = .ok (.lload 7, 2) := by decide +kernel
theorem d_Mo_draw_30 : decode b_Mo_draw 30 = .ok (.lload 7, 2) := by decide +kernel
theorem d_Mo_draw_32 : decode b_Mo_draw 32 = .ok (.bipush 13, 2) := by decide +kernel
theorem d_Mo_draw_34 : decode b_Mo_draw 34 = .ok (.lshl, 1) := by decide +kernel
theorem d_Mo_draw_35 : decode b_Mo_draw 35 = .ok (.lxor, 1) := by decide +kernel
theorem d_Mo_draw_36 : decode b_Mo_draw 36 = .ok (.lstore 7, 2) := by decide +kernel
theorem d_Mo_draw_38 : decode b_Mo_draw 38 = .ok (.lload 7, 2) := by decide +kernel
theorem d_Mo_draw_40 : decode b_Mo_draw 40 = .ok (.lload 7, 2) := by decide +kernel
theorem d_Mo_draw_42 : decode b_Mo_draw 42 = .ok (.bipush 7, 2) := by decide +kernel
theorem d_Mo_draw_44 : decode b_Mo_draw 44 = .ok (.lushr, 1) := by decide +kernel
theorem d_Mo_draw_45 : decode b_Mo_draw 45 = .ok (.lxor, 1) := by decide +kernel
theorem d_Mo_draw_46 : decode b_Mo_draw 46 = .ok (.lstore 7, 2) := by decide +kernel
theorem d_Mo_draw_48 : decode b_Mo_draw 48 = .ok (.lload 7, 2) := by decide +kernel
theorem d_Mo_draw_50 : decode b_Mo_draw 50 = .ok (.lload 7, 2) := by decide +kernel
theorem d_Mo_draw_52 : decode b_Mo_draw 52 = .ok (.bipush 17, 2) := by decide +kernel
theorem d_Mo_draw_54 : decode b_Mo_draw 54 = .ok (.lshl, 1) := by decide +kernel
theorem d_Mo_draw_55 : decode b_Mo_draw 55 = .ok (.lxor, 1) := by decide +kernel
theorem d_Mo_draw_56 : decode b_Mo_draw 56 = .ok (.lstore 7, 2) := by decide +kernel
theorem d_Mo_draw_58 : decode b_Mo_draw 58 = .ok (.aload_n 0, 1) := by decide +kernel
theorem d_Mo_draw_59 : decode b_Mo_draw 59 = .ok (.getfield 24, 3) := by decide +kernel
theorem d_Mo_draw_62 : decode b_Mo_draw 62 = .ok (.iload_n 1, 1) := by decide +kernel
theorem d_Mo_draw_63 : decode b_Mo_draw 63 = .ok (.lload 7, 2) := by decide +kernel
theorem d_Mo_draw_65 : decode b_Mo_draw 65 = .ok (.lastore, 1) := by decide +kernel
theorem d_Mo_draw_66 : decode b_Mo_draw 66 = .ok (.lload 7, 2) := by decide +kernel
theorem d_Mo_draw_68 : decode b_Mo_draw 68 = .ok (.bipush 33, 2) := by decide +kernel
theorem d_Mo_draw_70 : decode b_Mo_draw 70 = .ok (.lushr, 1) := by decide +kernel
theorem d_Mo_draw_71 : decode b_Mo_draw 71 = .ok (.lstore 5, 2) := by decide +kernel
theorem d_Mo_draw_73 : decode b_Mo_draw 73 = .ok (.goto (-60), 3) := by decide +kernel
theorem d_Mo_draw_76 : decode b_Mo_draw 76 = .ok (.lload 5, 2) := by decide +kernel
theorem d_Mo_draw_78 : decode b_Mo_draw 78 = .ok (.iload_n 2, 1) := by decide +kernel
theorem d_Mo_draw_79 : decode b_Mo_draw 79 = .ok (.i2l, 1) := by decide +kernel
theorem d_Mo_draw_80 : decode b_Mo_draw 80 = .ok (.lrem, 1) := by decide +kernel
theorem d_Mo_draw_81 : decode b_Mo_draw 81 = .ok (.l2i, 1) := by decide +kernel
theorem d_Mo_draw_82 : decode b_Mo_draw 82 = .ok (.ireturn, 1) := by decide +kernel
theorem d_Mo_takeBlock_0 : decode b_Mo_takeBlock 0 = .ok (.bipush 24, 2) := by decide +kernel
theorem d_Mo_takeBlock_2 : decode b_Mo_takeBlock 2 = .ok (.aload_n 0, 1) := by decide +kernel
theorem d_Mo_takeBlock_3 : decode b_Mo_takeBlock 3 = .ok (.getfield 95, 3) := by decide +kernel
theorem d_Mo_takeBlock_6 : decode b_Mo_takeBlock 6 = .ok (.imul, 1) := by decide +kernel
theorem d_Mo_takeBlock_7 : decode b_Mo_takeBlock 7 = .ok (.istore_n 2, 1) := by decide +kernel
theorem d_Mo_takeBlock_8 : decode b_Mo_takeBlock 8 = .ok (.aload_n 0, 1) := by decide +kernel
theorem d_Mo_takeBlock_9 : decode b_Mo_takeBlock 9 = .ok (.getfield 7, 3) := by decide +kernel
theorem d_Mo_takeBlock_12 : decode b_Mo_takeBlock 12 = .ok (.iconst 0, 1) := by decide +kernel
theorem d_Mo_takeBlock_13 : decode b_Mo_takeBlock 13 = .ok (.iaload, 1) := by decide +kernel
theorem d_Mo_takeBlock_14 : decode b_Mo_takeBlock 14 = .ok (.aload_n 0, 1) := by decide +kernel
theorem d_Mo_takeBlock_15 : decode b_Mo_takeBlock 15 = .ok (.getfield 7, 3) := by decide +kernel
theorem d_Mo_takeBlock_18 : decode b_Mo_takeBlock 18 = .ok (.iconst 1, 1) := by decide +kernel
theorem d_Mo_takeBlock_19 : decode b_Mo_takeBlock 19 = .ok (.iaload, 1) := by decide +kernel
theorem d_Mo_takeBlock_20 : decode b_Mo_takeBlock 20 = .ok (.iadd, 1) := by decide +kernel
theorem d_Mo_takeBlock_21 : decode b_Mo_takeBlock 21 = .ok (.aload_n 0, 1) := by decide +kernel
theorem d_Mo_takeBlock_22 : decode b_Mo_takeBlock 22 = .ok (.getfield 7, 3) := by decide +kernel
theorem d_Mo_takeBlock_25 : decode b_Mo_takeBlock 25 = .ok (.iconst 2, 1) := by decide +kernel
theorem d_Mo_takeBlock_26 : decode b_Mo_takeBlock 26 = .ok (.iaload, 1) := by decide +kernel
theorem d_Mo_takeBlock_27 : decode b_Mo_takeBlock 27 = .ok (.iadd, 1) := by decide +kernel
theorem d_Mo_takeBlock_28 : decode b_Mo_takeBlock 28 = .ok (.aload_n 0, 1) := by decide +kernel
theorem d_Mo_takeBlock_29 : decode b_Mo_takeBlock 29 = .ok (.getfield 7, 3) := by decide +kernel
theorem d_Mo_takeBlock_32 : decode b_Mo_takeBlock 32 = .ok (.iconst 3, 1) := by decide +kernel
theorem d_Mo_takeBlock_33 : decode b_Mo_takeBlock 33 = .ok (.iaload, 1) := by decide +kernel
theorem d_Mo_takeBlock_34 : decode b_Mo_takeBlock 34 = .ok (.iadd, 1) := by decide +kernel
theorem d_Mo_takeBlock_35 : decode b_Mo_takeBlock 35 = .ok (.istore_n 3, 1) := by decide +kernel
theorem d_Mo_takeBlock_36 : decode b_Mo_takeBlock 36 = .ok (.iconst 0, 1) := by decide +kernel
theorem d_Mo_takeBlock_37 : decode b_Mo_takeBlock 37 = .ok (.istore 4, 2) := by decide +kernel
theorem d_Mo_takeBlock_39 : decode b_Mo_takeBlock 39 = .ok (.iconst 0, 1) := by decide +kernel
theorem d_Mo_takeBlock_40 : decode b_Mo_takeBlock 40 = .ok (.istore 5, 2) := by decide +kernel
theorem d_Mo_takeBlock_42 : decode b_Mo_takeBlock 42 = .ok (.iload 5, 2) := by decide +kernel
theorem d_Mo_takeBlock_44 : decode b_Mo_takeBlock 44 = .ok (.aload_n 0, 1) := by decide +kernel
theorem d_Mo_takeBlock_45 : decode b_Mo_takeBlock 45 = .ok (.getfield 82, 3) := by decide +kernel
theorem d_Mo_takeBlock_48 : decode b_Mo_takeBlock 48 = .ok (.if_icmp .ge 52, 3) := by decide +kernel
theorem d_Mo_takeBlock_51 : decode b_Mo_takeBlock 51 = .ok (.iconst 0, 1) := by decide +kernel
theorem d_Mo_takeBlock_52 : decode b_Mo_takeBlock 52 = .ok (.istore 6, 2) := by decide +kernel
theorem d_Mo_takeBlock_54 : decode b_Mo_takeBlock 54 = .ok (.iload 6, 2) := by decide +kernel
theorem d_Mo_takeBlock_56 : decode b_Mo_takeBlock 56 = .ok (.aload_n 0, 1) := by decide +kernel
theorem d_Mo_takeBlock_57 : decode b_Mo_takeBlock 57 = .ok (.getfield 7, 3) := by decide +kernel
theorem d_Mo_takeBlock_60 : decode b_Mo_takeBlock 60 = .ok (.iload 5, 2) := by decide +kernel
theorem d_Mo_takeBlock_62 : decode b_Mo_takeBlock 62 = .ok (.iaload, 1) := by decide +kernel
theorem d_Mo_takeBlock_63 : decode b_Mo_takeBlock 63 = .ok (.aload_n 0, 1) := by decide +kernel
theorem d_Mo_takeBlock_64 : decode b_Mo_takeBlock 64 = .ok (.getfield 106, 3) := by decide +kernel
theorem d_Mo_takeBlock_67 : decode b_Mo_takeBlock 67 = .ok (.iload_n 3, 1) := by decide +kernel
theorem d_Mo_takeBlock_68 : decode b_Mo_takeBlock 68 = .ok (.idiv, 1) := by decide +kernel
theorem d_Mo_takeBlock_69 : decode b_Mo_takeBlock 69 = .ok (.imul, 1) := by decide +kernel
theorem d_Mo_takeBlock_70 : decode b_Mo_takeBlock 70 = .ok (.if_icmp .ge 24, 3) := by decide +kernel
theorem d_Mo_takeBlock_73 : decode b_Mo_takeBlock 73 = .ok (.aload_n 0, 1) := by decide +kernel
theorem d_Mo_takeBlock_74 : decode b_Mo_takeBlock 74 = .ok (.getfield 17, 3) := by decide +kernel
theorem d_Mo_takeBlock_77 : decode b_Mo_takeBlock 77 = .ok (.iload_n 2, 1) := by decide +kernel
theorem d_Mo_takeBlock_78 : decode b_Mo_takeBlock 78 = .ok (.iload 4, 2) := by decide +kernel
theorem d_Mo_takeBlock_80 : decode b_Mo_takeBlock 80 = .ok (.iadd, 1) := by decide +kernel
theorem d_Mo_takeBlock_81 : decode b_Mo_takeBlock 81 = .ok (.iload 5, 2) := by decide +kernel
theorem d_Mo_takeBlock_83 : decode b_Mo_takeBlock 83 = .ok (.i2b, 1) := by decide +kernel
theorem d_Mo_takeBlock_84 : decode b_Mo_takeBlock 84 = .ok (.bastore, 1) := by decide +kernel
theorem d_Mo_takeBlock_85 : decode b_Mo_takeBlock 85 = .ok (.iinc 4 1, 3) := by decide +kernel
theorem d_Mo_takeBlock_88 : decode b_Mo_takeBlock 88 = .ok (.iinc 6 1, 3) := by decide +kernel
theorem d_Mo_takeBlock_91 : decode b_Mo_takeBlock 91 = .ok (.goto (-37), 3) := by decide +kernel
theorem d_Mo_takeBlock_94 : decode b_Mo_takeBlock 94 = .ok (.iinc 5 1, 3) := by decide +kernel
theorem d_Mo_takeBlock_97 : decode b_Mo_takeBlock 97 = .ok (.goto (-55), 3) := by decide +kernel
theorem d_Mo_takeBlock_100 : decode b_Mo_takeBlock 100 = .ok (.aload_n 0, 1) := by decide +kernel
theorem d_Mo_takeBlock_101 : decode b_Mo_takeBlock 101 = .ok (.getfield 106, 3) := by decide +kernel
theorem d_Mo_takeBlock_104 : decode b_Mo_takeBlock 104 = .ok (.iconst 1, 1) := by decide +kernel
theorem d_Mo_takeBlock_105 : decode b_Mo_takeBlock 105 = .ok (.isub, 1) := by decide +kernel
theorem d_Mo_takeBlock_106 : decode b_Mo_takeBlock 106 = .ok (.istore 5, 2) := by decide +kernel
theorem d_Mo_takeBlock_108 : decode b_Mo_takeBlock 108 = .ok (.iload 5, 2) := by decide +kernel
theorem d_Mo_takeBlock_110 : decode b_Mo_takeBlock 110 = .ok (.ifCond .le 60, 3) := by decide +kernel
theorem d_Mo_takeBlock_113 : decode b_Mo_takeBlock 113 = .ok (.aload_n 0, 1) := by decide +kernel
theorem d_Mo_takeBlock_114 : decode b_Mo_takeBlock 114 = .ok (.iload_n 1, 1) := by decide +kernel
theorem d_Mo_takeBlock_115 : decode b_Mo_takeBlock 115 = .ok (.iload 5, 2) := by decide +kernel
theorem d_Mo_takeBlock_117 : decode b_Mo_takeBlock 117 = .ok (.iconst 1, 1) := by decide +kernel
theorem d_Mo_takeBlock_118 : decode b_Mo_takeBlock 118 = .ok (.iadd, 1) := by decide +kernel
theorem d_Mo_takeBlock_119 : decode b_Mo_takeBlock 119 = .ok (.invokevirtual 117, 3) := by decide +kernel
theorem d_Mo_takeBlock_122 : decode b_Mo_takeBlock 122 = .ok (.istore 6, 2) := by decide +kernel
theorem d_Mo_takeBlock_124 : decode b_Mo_takeBlock 124 = .ok (.aload_n 0, 1) := by decide +kernel
theorem d_Mo_takeBlock_125 : decode b_Mo_takeBlock 125 = .ok (.getfield 17, 3) := by decide +kernel
theorem d_Mo_takeBlock_128 : decode b_Mo_takeBlock 128 = .ok (.iload_n 2, 1) := by decide +kernel
theorem d_Mo_takeBlock_129 : decode b_Mo_takeBlock 129 = .ok (.iload 5, 2) := by decide +kernel
theorem d_Mo_takeBlock_131 : decode b_Mo_takeBlock 131 = .ok (.iadd, 1) := by decide +kernel
theorem d_Mo_takeBlock_132 : decode b_Mo_takeBlock 132 = .ok (.baload, 1) := by decide +kernel
theorem d_Mo_takeBlock_133 : decode b_Mo_takeBlock 133 = .ok (.istore 7, 2) := by decide +kernel
theorem d_Mo_takeBlock_135 : decode b_Mo_takeBlock 135 = .ok (.aload_n 0, 1) := by decide +kernel
theorem d_Mo_takeBlock_136 : decode b_Mo_takeBlock 136 = .ok (.getfield 17, 3) := by decide +kernel
theorem d_Mo_takeBlock_139 : decode b_Mo_takeBlock 139 = .ok (.iload_n 2, 1) := by decide +kernel
theorem d_Mo_takeBlock_140 : decode b_Mo_takeBlock 140 = .ok (.iload 5, 2) := by decide +kernel
theorem d_Mo_takeBlock_142 : decode b_Mo_takeBlock 142 = .ok (.iadd, 1) := by decide +kernel
theorem d_Mo_takeBlock_143 : decode b_Mo_takeBlock 143 = .ok (.aload_n 0, 1) := by decide +kernel
theorem d_Mo_takeBlock_144 : decode b_Mo_takeBlock 144 = .ok (.getfield 17, 3) := by decide +kernel
theorem d_Mo_takeBlock_147 : decode b_Mo_takeBlock 147 = .ok (.iload_n 2, 1) := by decide +kernel
theorem d_Mo_takeBlock_148 : decode b_Mo_takeBlock 148 = .ok (.iload 6, 2) := by decide +kernel
theorem d_Mo_takeBlock_150 : decode b_Mo_takeBlock 150 = .ok (.iadd, 1) := by decide +kernel
theorem d_Mo_takeBlock_151 : decode b_Mo_takeBlock 151 = .ok (.baload, 1) := by decide +kernel
theorem d_Mo_takeBlock_152 : decode b_Mo_takeBlock 152 = .ok (.bastore, 1) := by decide +kernel
theorem d_Mo_takeBlock_153 : decode b_Mo_takeBlock 153 = .ok (.aload_n 0, 1) := by decide +kernel
theorem d_Mo_takeBlock_154 : decode b_Mo_takeBlock 154 = .ok (.getfield 17, 3) := by decide +kernel
theorem d_Mo_takeBlock_157 : decode b_Mo_takeBlock 157 = .ok (.iload_n 2, 1) := by decide +kernel
theorem d_Mo_takeBlock_158 : decode b_Mo_takeBlock 158 = .ok (.iload 6, 2) := by decide +kernel
theorem d_Mo_takeBlock_160 : decode b_Mo_takeBlock 160 = .ok (.iadd, 1) := by decide +kernel
theorem d_Mo_takeBlock_161 : decode b_Mo_takeBlock 161 = .ok (.iload 7, 2) := by decide +kernel
theorem d_Mo_takeBlock_163 : decode b_Mo_takeBlock 163 = .ok (.bastore, 1) := by decide +kernel
theorem d_Mo_takeBlock_164 : decode b_Mo_takeBlock 164 = .ok (.iinc 5 (-1), 3) := by decide +kernel
theorem d_Mo_takeBlock_167 : decode b_Mo_takeBlock 167 = .ok (.goto (-59), 3) := by decide +kernel
theorem d_Mo_takeBlock_170 : decode b_Mo_takeBlock 170 = .ok (.aload_n 0, 1) := by decide +kernel
theorem d_Mo_takeBlock_171 : decode b_Mo_takeBlock 171 = .ok (.getfield 13, 3) := by decide +kernel
theorem d_Mo_takeBlock_174 : decode b_Mo_takeBlock 174 = .ok (.aload_n 0, 1) := by decide +kernel
theorem d_Mo_takeBlock_175 : decode b_Mo_takeBlock 175 = .ok (.getfield 95, 3) := by decide +kernel
theorem d_Mo_takeBlock_178 : decode b_Mo_takeBlock 178 = .ok (.iload_n 1, 1) := by decide +kernel
theorem d_Mo_takeBlock_179 : decode b_Mo_takeBlock 179 = .ok (.iastore, 1) := by decide +kernel
theorem d_Mo_takeBlock_180 : decode b_Mo_takeBlock 180 = .ok (.aload_n 0, 1) := by decide +kernel
theorem d_Mo_takeBlock_181 : decode b_Mo_takeBlock 181 = .ok (.getfield 21, 3) := by decide +kernel
theorem d_Mo_takeBlock_184 : decode b_Mo_takeBlock 184 = .ok (.iload_n 1, 1) := by decide +kernel
theorem d_Mo_takeBlock_185 : decode b_Mo_takeBlock 185 = .ok (.dup2, 1) := by decide +kernel
theorem d_Mo_takeBlock_186 : decode b_Mo_takeBlock 186 = .ok (.iaload, 1) := by decide +kernel
theorem d_Mo_takeBlock_187 : decode b_Mo_takeBlock 187 = .ok (.iconst 1, 1) := by decide +kernel
theorem d_Mo_takeBlock_188 : decode b_Mo_takeBlock 188 = .ok (.iadd, 1) := by decide +kernel
theorem d_Mo_takeBlock_189 : decode b_Mo_takeBlock 189 = .ok (.iastore, 1) := by decide +kernel
theorem d_Mo_takeBlock_190 : decode b_Mo_takeBlock 190 = .ok (.aload_n 0, 1) := by decide +kernel
theorem d_Mo_takeBlock_191 : decode b_Mo_takeBlock 191 = .ok (.dup, 1) := by decide +kernel
theorem d_Mo_takeBlock_192 : decode b_Mo_takeBlock 192 = .ok (.getfield 95, 3) := by decide +kernel
theorem d_Mo_takeBlock_195 : decode b_Mo_takeBlock 195 = .ok (.iconst 1, 1) := by decide +kernel
theorem d_Mo_takeBlock_196 : decode b_Mo_takeBlock 196 = .ok (.iadd, 1) := by decide +kernel
theorem d_Mo_takeBlock_197 : decode b_Mo_takeBlock 197 = .ok (.putfield 95, 3) := by decide +kernel
theorem d_Mo_takeBlock_200 : decode b_Mo_takeBlock 200 = .ok (.aload_n 0, 1) := by decide +kernel
theorem d_Mo_takeBlock_201 : decode b_Mo_takeBlock 201 = .ok (.getfield 95, 3) := by decide +kernel
theorem d_Mo_takeBlock_204 : decode b_Mo_takeBlock 204 = .ok (.iconst 1, 1) := by decide +kernel
theorem d_Mo_takeBlock_205 : decode b_Mo_takeBlock 205 = .ok (.isub, 1) := by decide +kernel
theorem d_Mo_takeBlock_206 : decode b_Mo_takeBlock 206 = .ok (.ireturn, 1) := by decide +kernel
theorem d_Mo_nextArm_0 : decode b_Mo_nextArm 0 = .ok (.aload_n 0, 1) := by decide +kernel
theorem d_Mo_nextArm_1 : decode b_Mo_nextArm 1 = .ok (.getfield 28, 3) := by decide +kernel
theorem d_Mo_nextArm_4 : decode b_Mo_nextArm 4 = .ok (.iload_n 1, 1) := by decide +kernel
theorem d_Mo_nextArm_5 : decode b_Mo_nextArm 5 = .ok (.iaload, 1) := by decide +kernel
theorem d_Mo_nextArm_6 : decode b_Mo_nextArm 6 = .ok (.ifCond .lt 38, 3) := by decide +kernel
theorem d_Mo_nextArm_9 : decode b_Mo_nextArm 9 = .ok (.aload_n 0, 1) := by decide +kernel
theorem d_Mo_nextArm_10 : decode b_Mo_nextArm 10 = .ok (.getfield 31, 3) := by decide +kernel
theorem d_Mo_nextArm_13 : decode b_Mo_nextArm 13 = .ok (.iload_n 1, 1) := by decide +kernel
theorem d_Mo_nextArm_14 : decode b_Mo_nextArm 14 = .ok (.iaload, 1) := by decide +kernel
theorem d_Mo_nextArm_15 : decode b_Mo_nextArm 15 = .ok (.aload_n 0, 1) := by decide +kernel
theorem d_Mo_nextArm_16 : decode b_Mo_nextArm 16 = .ok (.getfield 106, 3) := by decide +kernel
theorem d_Mo_nextArm_19 : decode b_Mo_nextArm 19 = .ok (.if_icmp .ge 25, 3) := by decide +kernel
theorem d_Mo_nextArm_22 : decode b_Mo_nextArm 22 = .ok (.aload_n 0, 1) := by decide +kernel
theorem d_Mo_nextArm_23 : decode b_Mo_nextArm 23 = .ok (.getfield 17, 3) := by decide +kernel
theorem d_Mo_nextArm_26 : decode b_Mo_nextArm 26 = .ok (.bipush 24, 2) := by decide +kernel
theorem d_Mo_nextArm_28 : decode b_Mo_nextArm 28 = .ok (.aload_n 0, 1) := by decide +kernel
theorem d_Mo_nextArm_29 : decode b_Mo_nextArm 29 = .ok (.getfield 28, 3) := by decide +kernel
theorem d_Mo_nextArm_32 : decode b_Mo_nextArm 32 = .ok (.iload_n 1, 1) := by decide +kernel
theorem d_Mo_nextArm_33 : decode b_Mo_nextArm 33 = .ok (.iaload, 1) := by decide +kernel
theorem d_Mo_nextArm_34 : decode b_Mo_nextArm 34 = .ok (.imul, 1) := by decide +kernel
theorem d_Mo_nextArm_35 : decode b_Mo_nextArm 35 = .ok (.aload_n 0, 1) := by decide +kernel
theorem d_Mo_nextArm_36 : decode b_Mo_nextArm 36 = .ok (.getfield 31, 3) := by decide +kernel
theorem d_Mo_nextArm_39 : decode b_Mo_nextArm 39 = .ok (.iload_n 1, 1) := by decide +kernel
theorem d_Mo_nextArm_40 : decode b_Mo_nextArm 40 = .ok (.iaload, 1) := by decide +kernel
theorem d_Mo_nextArm_41 : decode b_Mo_nextArm 41 = .ok (.iadd, 1) := by decide +kernel
theorem d_Mo_nextArm_42 : decode b_Mo_nextArm 42 = .ok (.baload, 1) := by decide +kernel
theorem d_Mo_nextArm_43 : decode b_Mo_nextArm 43 = .ok (.ireturn, 1) := by decide +kernel
theorem d_Mo_nextArm_44 : decode b_Mo_nextArm 44 = .ok (.aload_n 0, 1) := by decide +kernel
theorem d_Mo_nextArm_45 : decode b_Mo_nextArm 45 = .ok (.getfield 24, 3) := by decide +kernel
theorem d_Mo_nextArm_48 : decode b_Mo_nextArm 48 = .ok (.iload_n 1, 1) := by decide +kernel
theorem d_Mo_nextArm_49 : decode b_Mo_nextArm 49 = .ok (.laload, 1) := by decide +kernel
theorem d_Mo_nextArm_50 : decode b_Mo_nextArm 50 = .ok (.lstore_n 2, 1) := by decide +kernel
theorem d_Mo_nextArm_51 : decode b_Mo_nextArm 51 = .ok (.aload_n 0, 1) := by decide +kernel
theorem d_Mo_nextArm_52 : decode b_Mo_nextArm 52 = .ok (.iload_n 1, 1) := by decide +kernel
theorem d_Mo_nextArm_53 : decode b_Mo_nextArm 53 = .ok (.invokevirtual 121, 3) := by decide +kernel
theorem d_Mo_nextArm_56 : decode b_Mo_nextArm 56 = .ok (.istore 4, 2) := by decide +kernel
theorem d_Mo_nextArm_58 : decode b_Mo_nextArm 58 = .ok (.aload_n 0, 1) := by decide +kernel
theorem d_Mo_nextArm_59 : decode b_Mo_nextArm 59 = .ok (.getfield 17, 3) := by decide +kernel
theorem d_Mo_nextArm_62 : decode b_Mo_nextArm 62 = .ok (.bipush 24, 2) := by decide +kernel
theorem d_Mo_nextArm_64 : decode b_Mo_nextArm 64 = .ok (.iload 4, 2) := by decide +kernel
theorem d_Mo_nextArm_66 : decode b_Mo_nextArm 66 = .ok (.imul, 1) := by decide +kernel
theorem d_Mo_nextArm_67 : decode b_Mo_nextArm 67 = .ok (.baload, 1) := by decide +kernel
theorem d_Mo_nextArm_68 : decode b_Mo_nextArm 68 = .ok (.istore 5, 2) := by decide +kernel
theorem d_Mo_nextArm_70 : decode b_Mo_nextArm 70 = .ok (.aload_n 0, 1) := by decide +kernel
theorem d_Mo_nextArm_71 : decode b_Mo_nextArm 71 = .ok (.dup, 1) := by decide +kernel
theorem d_Mo_nextArm_72 : decode b_Mo_nextArm 72 = .ok (.getfield 95, 3) := by decide +kernel
theorem d_Mo_nextArm_75 : decode b_Mo_nextArm 75 = .ok (.iconst 1, 1) := by decide +kernel
theorem d_Mo_nextArm_76 : decode b_Mo_nextArm 76 = .ok (.isub, 1) := by decide +kernel
theorem d_Mo_nextArm_77 : decode b_Mo_nextArm 77 = .ok (.putfield 95, 3) := by decide +kernel
theorem d_Mo_nextArm_80 : decode b_Mo_nextArm 80 = .ok (.aload_n 0, 1) := by decide +kernel
theorem d_Mo_nextArm_81 : decode b_Mo_nextArm 81 = .ok (.getfield 21, 3) := by decide +kernel
theorem d_Mo_nextArm_84 : decode b_Mo_nextArm 84 = .ok (.iload_n 1, 1) := by decide +kernel
theorem d_Mo_nextArm_85 : decode b_Mo_nextArm 85 = .ok (.dup2, 1) := by decide +kernel
theorem d_Mo_nextArm_86 : decode b_Mo_nextArm 86 = .ok (.iaload, 1) := by decide +kernel
theorem d_Mo_nextArm_87 : decode b_Mo_nextArm 87 = .ok (.iconst 1, 1) := by decide +kernel
theorem d_Mo_nextArm_88 : decode b_Mo_nextArm 88 = .ok (.isub, 1) := by decide +kernel
theorem d_Mo_nextArm_89 : decode b_Mo_nextArm 89 = .ok (.iastore, 1) := by decide +kernel
theorem d_Mo_nextArm_90 : decode b_Mo_nextArm 90 = .ok (.aload_n 0, 1) := by decide +kernel
theorem d_Mo_nextArm_91 : decode b_Mo_nextArm 91 = .ok (.getfield 24, 3) := by decide +kernel
theorem d_Mo_nextArm_94 : decode b_Mo_nextArm 94 = .ok (.iload_n 1, 1) := by decide +kernel
theorem d_Mo_nextArm_95 : decode b_Mo_nextArm 95 = .ok (.lload_n 2, 1) := by decide +kernel
theorem d_Mo_nextArm_96 : decode b_Mo_nextArm 96 = .ok (.lastore, 1) := by decide +kernel
theorem d_Mo_nextArm_97 : decode b_Mo_nextArm 97 = .ok (.iload 5, 2) := by decide +kernel
theorem d_Mo_nextArm_99 : decode b_Mo_nextArm 99 = .ok (.ireturn, 1) := by decide +kernel
theorem d_Mo_site_0 : decode b_Mo_site 0 = .ok (.iload_n 1, 1) := by decide +kernel
theorem d_Mo_site_1 : decode b_Mo_site 1 = .ok (.iconst 0, 1) := by decide +kernel
theorem d_Mo_site_2 : decode b_Mo_site 2 = .ok (.bipush 9, 2) := by decide +kernel
theorem d_Mo_site_4 : decode b_Mo_site 4 = .ok (.invokestatic 74, 3) := by decide +kernel
theorem d_Mo_site_7 : decode b_Mo_site 7 = .ok (.ifCond .ne 7, 3) := by decide +kernel
theorem d_Mo_site_10 : decode b_Mo_site 10 = .ok (.iconst 1, 1) := by decide +kernel
theorem d_Mo_site_11 : decode b_Mo_site 11 = .ok (.goto 4, 3) := by decide +kernel
theorem d_Mo_site_14 : decode b_Mo_site 14 = .ok (.iconst 0, 1) := by decide +kernel
theorem d_Mo_site_15 : decode b_Mo_site 15 = .ok (.istore_n 2, 1) := by decide +kernel
theorem d_Mo_site_16 : decode b_Mo_site 16 = .ok (.aload_n 0, 1) := by decide +kernel
theorem d_Mo_site_17 : decode b_Mo_site 17 = .ok (.iload_n 2, 1) := by decide +kernel
theorem d_Mo_site_18 : decode b_Mo_site 18 = .ok (.iload_n 2, 1) := by decide +kernel
theorem d_Mo_site_19 : decode b_Mo_site 19 = .ok (.ifCond .ne 16, 3) := by decide +kernel
theorem d_Mo_site_22 : decode b_Mo_site 22 = .ok (.aload_n 0, 1) := by decide +kernel
theorem d_Mo_site_23 : decode b_Mo_site 23 = .ok (.getfield 34, 3) := by decide +kernel
theorem d_Mo_site_26 : decode b_Mo_site 26 = .ok (.iload_n 1, 1) := by decide +kernel
theorem d_Mo_site_27 : decode b_Mo_site 27 = .ok (.iaload, 1) := by decide +kernel
theorem d_Mo_site_28 : decode b_Mo_site 28 = .ok (.ifCond .le 7, 3) := by decide +kernel
theorem d_Mo_site_31 : decode b_Mo_site 31 = .ok (.iconst 1, 1) := by decide +kernel
theorem d_Mo_site_32 : decode b_Mo_site 32 = .ok (.goto 4, 3) := by decide +kernel
theorem d_Mo_site_35 : decode b_Mo_site 35 = .ok (.iconst 0, 1) := by decide +kernel
theorem d_Mo_site_36 : decode b_Mo_site 36 = .ok (.iconst 0, 1) := by decide +kernel
theorem d_Mo_site_37 : decode b_Mo_site 37 = .ok (.invokevirtual 98, 3) := by decide +kernel
theorem d_Mo_site_40 : decode b_Mo_site 40 = .ok (.ifCond .eq 5, 3) := by decide +kernel
theorem d_Mo_site_43 : decode b_Mo_site 43 = .ok (.iconst 0, 1) := by decide +kernel
theorem d_Mo_site_44 : decode b_Mo_site 44 = .ok (.ireturn, 1) := by decide +kernel
theorem d_Mo_site_45 : decode b_Mo_site 45 = .ok (.aload_n 0, 1) := by decide +kernel
theorem d_Mo_site_46 : decode b_Mo_site 46 = .ok (.getfield 89, 3) := by decide +kernel
theorem d_Mo_site_49 : decode b_Mo_site 49 = .ok (.ifCond .ne 10, 3) := by decide +kernel
theorem d_Mo_site_52 : decode b_Mo_site 52 = .ok (.aload_n 0, 1) := by decide +kernel
theorem d_Mo_site_53 : decode b_Mo_site 53 = .ok (.invokevirtual 102, 3) := by decide +kernel
theorem d_Mo_site_56 : decode b_Mo_site 56 = .ok (.ifCond .ne 6, 3) := by decide +kernel
theorem d_Mo_site_59 : decode b_Mo_site 59 = .ok (.bipush (-2), 2) := by decide +kernel
theorem d_Mo_site_61 : decode b_Mo_site 61 = .ok (.ireturn, 1) := by decide +kernel
theorem d_Mo_site_62 : decode b_Mo_site 62 = .ok (.aload_n 0, 1) := by decide +kernel
theorem d_Mo_site_63 : decode b_Mo_site 63 = .ok (.getfield 34, 3) := by decide +kernel
theorem d_Mo_site_66 : decode b_Mo_site 66 = .ok (.iload_n 1, 1) := by decide +kernel
theorem d_Mo_site_67 : decode b_Mo_site 67 = .ok (.iconst 1, 1) := by decide +kernel
theorem d_Mo_site_68 : decode b_Mo_site 68 = .ok (.iastore, 1) := by decide +kernel
theorem d_Mo_site_69 : decode b_Mo_site 69 = .ok (.iconst 0, 1) := by decide +kernel
theorem d_Mo_site_70 : decode b_Mo_site 70 = .ok (.istore_n 3, 1) := by decide +kernel
theorem d_Mo_site_71 : decode b_Mo_site 71 = .ok (.iconst 0, 1) := by decide +kernel
theorem d_Mo_site_72 : decode b_Mo_site 72 = .ok (.istore 4, 2) := by decide +kernel
theorem d_Mo_site_74 : decode b_Mo_site 74 = .ok (.iload 4, 2) := by decide +kernel
theorem d_Mo_site_76 : decode b_Mo_site 76 = .ok (.bipush 10, 2) := by decide +kernel
theorem d_Mo_site_78 : decode b_Mo_site 78 = .ok (.if_icmp .ge 27, 3) := by decide +kernel
theorem d_Mo_site_81 : decode b_Mo_site 81 = .ok (.aload_n 0, 1) := by decide +kernel
theorem d_Mo_site_82 : decode b_Mo_site 82 = .ok (.getfield 34, 3) := by decide +kernel
theorem d_Mo_site_85 : decode b_Mo_site 85 = .ok (.iload 4, 2) := by decide +kernel
theorem d_Mo_site_87 : decode b_Mo_site 87 = .ok (.iaload, 1) := by decide +kernel
theorem d_Mo_site_88 : decode b_Mo_site 88 = .ok (.ifCond .le 9, 3) := by decide +kernel
theorem d_Mo_site_91 : decode b_Mo_site 91 = .ok (.iload_n 3, 1) := by decide +kernel
theorem d_Mo_site_92 : decode b_Mo_site 92 = .ok (.iconst 1, 1) := by decide +kernel
theorem d_Mo_site_93 : decode b_Mo_site 93 = .ok (.iadd, 1) := by decide +kernel
theorem d_Mo_site_94 : decode b_Mo_site 94 = .ok (.goto 4, 3) := by decide +kernel
theorem d_Mo_site_97 : decode b_Mo_site 97 = .ok (.iload_n 3, 1) := by decide +kernel
theorem d_Mo_site_98 : decode b_Mo_site 98 = .ok (.istore_n 3, 1) := by decide +kernel
theorem d_Mo_site_99 : decode b_Mo_site 99 = .ok (.iinc 4 1, 3) := by decide +kernel
theorem d_Mo_site_102 : decode b_Mo_site 102 = .ok (.goto (-28), 3) := by decide +kernel
theorem d_Mo_site_105 : decode b_Mo_site 105 = .ok (.iload_n 3, 1) := by decide +kernel
theorem d_Mo_site_106 : decode b_Mo_site 106 = .ok (.ireturn, 1) := by decide +kernel
theorem d_Mo_free_0 : decode b_Mo_free 0 = .ok (.iconst 0, 1) := by decide +kernel
theorem d_Mo_free_1 : decode b_Mo_free 1 = .ok (.istore_n 3, 1) := by decide +kernel
theorem d_Mo_free_2 : decode b_Mo_free 2 = .ok (.iconst 0, 1) := by decide +kernel
theorem d_Mo_free_3 : decode b_Mo_free 3 = .ok (.istore 4, 2) := by decide +kernel
theorem d_Mo_free_5 : decode b_Mo_free 5 = .ok (.iload 4, 2) := by decide +kernel
theorem d_Mo_free_7 : decode b_Mo_free 7 = .ok (.sipush 1000, 3) := by decide +kernel
theorem d_Mo_free_10 : decode b_Mo_free 10 = .ok (.if_icmp .ge 49, 3) := by decide +kernel
theorem d_Mo_free_13 : decode b_Mo_free 13 = .ok (.aload_n 0, 1) := by decide +kernel
theorem d_Mo_free_14 : decode b_Mo_free 14 = .ok (.getfield 37, 3) := by decide +kernel
theorem d_Mo_free_17 : decode b_Mo_free 17 = .ok (.iload 4, 2) := by decide +kernel
theorem d_Mo_free_19 : decode b_Mo_free 19 = .ok (.iaload, 1) := by decide +kernel
theorem d_Mo_free_20 : decode b_Mo_free 20 = .ok (.iload_n 1, 1) := by decide +kernel
theorem d_Mo_free_21 : decode b_Mo_free 21 = .ok (.if_icmp .ne 30, 3) := by decide +kernel
theorem d_Mo_free_24 : decode b_Mo_free 24 = .ok (.aload_n 0, 1) := by decide +kernel
theorem d_Mo_free_25 : decode b_Mo_free 25 = .ok (.getfield 40, 3) := by decide +kernel
theorem d_Mo_free_28 : decode b_Mo_free 28 = .ok (.iload 4, 2) := by decide +kernel
theorem d_Mo_free_30 : decode b_Mo_free 30 = .ok (.iaload, 1) := by decide +kernel
theorem d_Mo_free_31 : decode b_Mo_free 31 = .ok (.iload_n 2, 1) := by decide +kernel
theorem d_Mo_free_32 : decode b_Mo_free 32 = .ok (.if_icmp .ne 19, 3) := by decide +kernel
theorem d_Mo_free_35 : decode b_Mo_free 35 = .ok (.aload_n 0, 1) := by decide +kernel
theorem d_Mo_free_36 : decode b_Mo_free 36 = .ok (.getfield 43, 3) := by decide +kernel
theorem d_Mo_free_39 : decode b_Mo_free 39 = .ok (.iload 4, 2) := by decide +kernel
theorem d_Mo_free_41 : decode b_Mo_free 41 = .ok (.iaload, 1) := by decide +kernel
theorem d_Mo_free_42 : decode b_Mo_free 42 = .ok (.ifCond .ne 9, 3) := by decide +kernel
theorem d_Mo_free_45 : decode b_Mo_free 45 = .ok (.iload_n 3, 1) := by decide +kernel
theorem d_Mo_free_46 : decode b_Mo_free 46 = .ok (.iconst 1, 1) := by decide +kernel
theorem d_Mo_free_47 : decode b_Mo_free 47 = .ok (.iadd, 1) := by decide +kernel
theorem d_Mo_free_48 : decode b_Mo_free 48 = .ok (.goto 4, 3) := by decide +kernel
theorem d_Mo_free_51 : decode b_Mo_free 51 = .ok (.iload_n 3, 1) := by decide +kernel
theorem d_Mo_free_52 : decode b_Mo_free 52 = .ok (.istore_n 3, 1) := by decide +kernel
theorem d_Mo_free_53 : decode b_Mo_free 53 = .ok (.iinc 4 1, 3) := by decide +kernel
theorem d_Mo_free_56 : decode b_Mo_free 56 = .ok (.goto (-51), 3) := by decide +kernel
theorem d_Mo_free_59 : decode b_Mo_free 59 = .ok (.iload_n 3, 1) := by decide +kernel
theorem d_Mo_free_60 : decode b_Mo_free 60 = .ok (.ireturn, 1) := by decide +kernel
theorem d_Mo_leastFree_0 : decode b_Mo_leastFree 0 = .ok (.iconst 0, 1) := by decide +kernel
theorem d_Mo_leastFree_1 : decode b_Mo_leastFree 1 = .ok (.istore_n 3, 1) := by decide +kernel
theorem d_Mo_leastFree_2 : decode b_Mo_leastFree 2 = .ok (.iload_n 3, 1) := by decide +kernel
theorem d_Mo_leastFree_3 : decode b_Mo_leastFree 3 = .ok (.sipush 1000, 3) := by decide +kernel
theorem d_Mo_leastFree_6 : decode b_Mo_leastFree 6 = .ok (.if_icmp .ge 38, 3) := by decide +kernel
theorem d_Mo_leastFree_9 : decode b_Mo_leastFree 9 = .ok (.aload_n 0, 1) := by decide +kernel
theorem d_Mo_leastFree_10 : decode b_Mo_leastFree 10 = .ok (.getfield 37, 3) := by decide +kernel
theorem d_Mo_leastFree_13 : decode b_Mo_leastFree 13 = .ok (.iload_n 3, 1) := by decide +kernel
theorem d_Mo_leastFree_14 : decode b_Mo_leastFree 14 = .ok (.iaload, 1) := by decide +kernel
theorem d_Mo_leastFree_15 : decode b_Mo_leastFree 15 = .ok (.iload_n 1, 1) := by decide +kernel
theorem d_Mo_leastFree_16 : decode b_Mo_leastFree 16 = .ok (.if_icmp .ne 22, 3) := by decide +kernel
theorem d_Mo_leastFree_19 : decode b_Mo_leastFree 19 = .ok (.aload_n 0, 1) := by decide +kernel
theorem d_Mo_leastFree_20 : decode b_Mo_leastFree 20 = .ok (.getfield 40, 3) := by decide +kernel
theorem d_Mo_leastFree_23 : decode b_Mo_leastFree 23 = .ok (.iload_n 3, 1) := by decide +kernel
theorem d_Mo_leastFree_24 : decode b_Mo_leastFree 24 = .ok (.iaload, 1) := by decide +kernel
theorem d_Mo_leastFree_25 : decode b_Mo_leastFree 25 = .ok (.iload_n 2, 1) := by decide +kernel
theorem d_Mo_leastFree_26 : decode b_Mo_leastFree 26 = .ok (.if_icmp .ne 12, 3) := by decide +kernel
theorem d_Mo_leastFree_29 : decode b_Mo_leastFree 29 = .ok (.aload_n 0, 1) := by decide +kernel
theorem d_Mo_leastFree_30 : decode b_Mo_leastFree 30 = .ok (.getfield 43, 3) := by decide +kernel
theorem d_Mo_leastFree_33 : decode b_Mo_leastFree 33 = .ok (.iload_n 3, 1) := by decide +kernel
theorem d_Mo_leastFree_34 : decode b_Mo_leastFree 34 = .ok (.iaload, 1) := by decide +kernel
theorem d_Mo_leastFree_35 : decode b_Mo_leastFree 35 = .ok (.ifCond .eq 9, 3) := by decide +kernel
theorem d_Mo_leastFree_38 : decode b_Mo_leastFree 38 = .ok (.iinc 3 1, 3) := by decide +kernel
theorem d_Mo_leastFree_41 : decode b_Mo_leastFree 41 = .ok (.goto (-39), 3) := by decide +kernel
theorem d_Mo_leastFree_44 : decode b_Mo_leastFree 44 = .ok (.iload_n 3, 1) := by decide +kernel
theorem d_Mo_leastFree_45 : decode b_Mo_leastFree 45 = .ok (.sipush 1000, 3) := by decide +kernel
theorem d_Mo_leastFree_48 : decode b_Mo_leastFree 48 = .ok (.if_icmp .ge 7, 3) := by decide +kernel
theorem d_Mo_leastFree_51 : decode b_Mo_leastFree 51 = .ok (.iload_n 3, 1) := by decide +kernel
theorem d_Mo_leastFree_52 : decode b_Mo_leastFree 52 = .ok (.goto 4, 3) := by decide +kernel
theorem d_Mo_leastFree_55 : decode b_Mo_leastFree 55 = .ok (.iconst (-1), 1) := by decide +kernel
theorem d_Mo_leastFree_56 : decode b_Mo_leastFree 56 = .ok (.ireturn, 1) := by decide +kernel
theorem d_Mo_kits_0 : decode b_Mo_kits 0 = .ok (.aload_n 0, 1) := by decide +kernel
theorem d_Mo_kits_1 : decode b_Mo_kits 1 = .ok (.iload_n 1, 1) := by decide +kernel
theorem d_Mo_kits_2 : decode b_Mo_kits 2 = .ok (.invokevirtual 78, 3) := by decide +kernel
theorem d_Mo_kits_5 : decode b_Mo_kits 5 = .ok (.ifCond .eq 37, 3) := by decide +kernel
theorem d_Mo_kits_8 : decode b_Mo_kits 8 = .ok (.aload_n 0, 1) := by decide +kernel
theorem d_Mo_kits_9 : decode b_Mo_kits 9 = .ok (.iload_n 2, 1) := by decide +kernel
theorem d_Mo_kits_10 : decode b_Mo_kits 10 = .ok (.invokevirtual 125, 3) := by decide +kernel
theorem d_Mo_kits_13 : decode b_Mo_kits 13 = .ok (.ifCond .eq 29, 3) := by decide +kernel
theorem d_Mo_kits_16 : decode b_Mo_kits 16 = .ok (.iload_n 3, 1) := by decide +kernel
theorem d_Mo_kits_17 : decode b_Mo_kits 17 = .ok (.iconst 0, 1) := by decide +kernel
theorem d_Mo_kits_18 : decode b_Mo_kits 18 = .ok (.sipush 999, 3) := by decide +kernel
theorem d_Mo_kits_21 : decode b_Mo_kits 21 = .ok (.invokestatic 74, 3) := by decide +kernel
theorem d_Mo_kits_24 : decode b_Mo_kits 24 = .ok (.ifCond .eq 18, 3) := by decide +kernel
theorem d_Mo_kits_27 : decode b_Mo_kits 27 = .ok (.iload_n 3, 1) := by decide +kernel
theorem d_Mo_kits_28 : decode b_Mo_kits 28 = .ok (.i2l, 1) := by decide +kernel
theorem d_Mo_kits_29 : decode b_Mo_kits 29 = .ok (.iload 4, 2) := by decide +kernel
theorem d_Mo_kits_31 : decode b_Mo_kits 31 = .ok (.i2l, 1) := by decide +kernel
theorem d_Mo_kits_32 : decode b_Mo_kits 32 = .ok (.ladd, 1) := by decide +kernel
theorem d_Mo_kits_33 : decode b_Mo_kits 33 = .ok (.lconst 1, 1) := by decide +kernel
theorem d_Mo_kits_34 : decode b_Mo_kits 34 = .ok (.lsub, 1) := by decide +kernel
theorem d_Mo_kits_35 : decode b_Mo_kits 35 = .ok (.ldc2_w 128, 3) := by decide +kernel
theorem d_Mo_kits_38 : decode b_Mo_kits 38 = .ok (.lcmp, 1) := by decide +kernel
theorem d_Mo_kits_39 : decode b_Mo_kits 39 = .ok (.ifCond .le 7, 3) := by decide +kernel
theorem d_Mo_kits_42 : decode b_Mo_kits 42 = .ok (.iconst 1, 1) := by decide +kernel
theorem d_Mo_kits_43 : decode b_Mo_kits 43 = .ok (.goto 4, 3) := by decide +kernel
theorem d_Mo_kits_46 : decode b_Mo_kits 46 = .ok (.iconst 0, 1) := by decide +kernel
theorem d_Mo_kits_47 : decode b_Mo_kits 47 = .ok (.istore 5, 2) := by decide +kernel
theorem d_Mo_kits_49 : decode b_Mo_kits 49 = .ok (.aload_n 0, 1) := by decide +kernel
theorem d_Mo_kits_50 : decode b_Mo_kits 50 = .ok (.iload 5, 2) := by decide +kernel
theorem d_Mo_kits_52 : decode b_Mo_kits 52 = .ok (.aload_n 0, 1) := by decide +kernel
theorem d_Mo_kits_53 : decode b_Mo_kits 53 = .ok (.getfield 82, 3) := by decide +kernel
theorem d_Mo_kits_56 : decode b_Mo_kits 56 = .ok (.ifCond .ne 7, 3) := by decide +kernel
theorem d_Mo_kits_59 : decode b_Mo_kits 59 = .ok (.iconst 1, 1) := by decide +kernel
theorem d_Mo_kits_60 : decode b_Mo_kits 60 = .ok (.goto 4, 3) := by decide +kernel
theorem d_Mo_kits_63 : decode b_Mo_kits 63 = .ok (.iconst 0, 1) := by decide +kernel
theorem d_Mo_kits_64 : decode b_Mo_kits 64 = .ok (.iload 4, 2) := by decide +kernel
theorem d_Mo_kits_66 : decode b_Mo_kits 66 = .ok (.iconst 1, 1) := by decide +kernel
theorem d_Mo_kits_67 : decode b_Mo_kits 67 = .ok (.bipush 50, 2) := by decide +kernel
theorem d_Mo_kits_69 : decode b_Mo_kits 69 = .ok (.invokestatic 74, 3) := by decide +kernel
theorem d_Mo_kits_72 : decode b_Mo_kits 72 = .ok (.ifCond .ne 7, 3) := by decide +kernel
theorem d_Mo_kits_75 : decode b_Mo_kits 75 = .ok (.iconst 1, 1) := by decide +kernel
theorem d_Mo_kits_76 : decode b_Mo_kits 76 = .ok (.goto 4, 3) := by decide +kernel
theorem d_Mo_kits_79 : decode b_Mo_kits 79 = .ok (.iconst 0, 1) := by decide +kernel
theorem d_Mo_kits_80 : decode b_Mo_kits 80 = .ok (.invokevirtual 98, 3) := by decide +kernel
theorem d_Mo_kits_83 : decode b_Mo_kits 83 = .ok (.ifCond .eq 5, 3) := by decide +kernel
theorem d_Mo_kits_86 : decode b_Mo_kits 86 = .ok (.iconst 0, 1) := by decide +kernel
theorem d_Mo_kits_87 : decode b_Mo_kits 87 = .ok (.ireturn, 1) := by decide +kernel
theorem d_Mo_kits_88 : decode b_Mo_kits 88 = .ok (.aload_n 0, 1) := by decide +kernel
theorem d_Mo_kits_89 : decode b_Mo_kits 89 = .ok (.getfield 89, 3) := by decide +kernel
theorem d_Mo_kits_92 : decode b_Mo_kits 92 = .ok (.ifCond .eq 6, 3) := by decide +kernel
theorem d_Mo_kits_95 : decode b_Mo_kits 95 = .ok (.bipush (-2), 2) := by decide +kernel
theorem d_Mo_kits_97 : decode b_Mo_kits 97 = .ok (.ireturn, 1) := by decide +kernel
theorem d_Mo_kits_98 : decode b_Mo_kits 98 = .ok (.aload_n 0, 1) := by decide +kernel
theorem d_Mo_kits_99 : decode b_Mo_kits 99 = .ok (.getfield 34, 3) := by decide +kernel
theorem d_Mo_kits_102 : decode b_Mo_kits 102 = .ok (.iload_n 1, 1) := by decide +kernel
theorem d_Mo_kits_103 : decode b_Mo_kits 103 = .ok (.iaload, 1) := by decide +kernel
theorem d_Mo_kits_104 : decode b_Mo_kits 104 = .ok (.iconst 2, 1) := by decide +kernel
theorem d_Mo_kits_105 : decode b_Mo_kits 105 = .ok (.if_icmp .ne 6, 3) := by decide +kernel
theorem d_Mo_kits_108 : decode b_Mo_kits 108 = .ok (.bipush (-4), 2) := by decide +kernel
theorem d_Mo_kits_110 : decode b_Mo_kits 110 = .ok (.ireturn, 1) := by decide +kernel
theorem d_Mo_kits_111 : decode b_Mo_kits 111 = .ok (.iload_n 3, 1) := by decide +kernel
theorem d_Mo_kits_112 : decode b_Mo_kits 112 = .ok (.istore 6, 2) := by decide +kernel
theorem d_Mo_kits_114 : decode b_Mo_kits 114 = .ok (.iload 6, 2) := by decide +kernel
theorem d_Mo_kits_116 : decode b_Mo_kits 116 = .ok (.iload_n 3, 1) := by decide +kernel
theorem d_Mo_kits_117 : decode b_Mo_kits 117 = .ok (.iload 4, 2) := by decide +kernel
theorem d_Mo_kits_119 : decode b_Mo_kits 119 = .ok (.iadd, 1) := by decide +kernel
theorem d_Mo_kits_120 : decode b_Mo_kits 120 = .ok (.if_icmp .ge 22, 3) := by decide +kernel
theorem d_Mo_kits_123 : decode b_Mo_kits 123 = .ok (.aload_n 0, 1) := by decide +kernel
theorem d_Mo_kits_124 : decode b_Mo_kits 124 = .ok (.getfield 37, 3) := by decide +kernel
theorem d_Mo_kits_127 : decode b_Mo_kits 127 = .ok (.iload 6, 2) := by decide +kernel
theorem d_Mo_kits_129 : decode b_Mo_kits 129 = .ok (.iaload, 1) := by decide +kernel
theorem d_Mo_kits_130 : decode b_Mo_kits 130 = .ok (.ifCond .lt 6, 3) := by decide +kernel
theorem d_Mo_kits_133 : decode b_Mo_kits 133 = .ok (.bipush (-5), 2) := by decide +kernel
theorem d_Mo_kits_135 : decode b_Mo_kits 135 = .ok (.ireturn, 1) := by decide +kernel
theorem d_Mo_kits_136 : decode b_Mo_kits 136 = .ok (.iinc 6 1, 3) := by decide +kernel
theorem d_Mo_kits_139 : decode b_Mo_kits 139 = .ok (.goto (-25), 3) := by decide +kernel
theorem d_Mo_kits_142 : decode b_Mo_kits 142 = .ok (.aload_n 0, 1) := by decide +kernel
theorem d_Mo_kits_143 : decode b_Mo_kits 143 = .ok (.invokevirtual 102, 3) := by decide +kernel
theorem d_Mo_kits_146 : decode b_Mo_kits 146 = .ok (.ifCond .ne 6, 3) := by decide +kernel
theorem d_Mo_kits_149 : decode b_Mo_kits 149 = .ok (.bipush (-2), 2) := by decide +kernel
theorem d_Mo_kits_151 : decode b_Mo_kits 151 = .ok (.ireturn, 1) := by decide +kernel
theorem d_Mo_kits_152 : decode b_Mo_kits 152 = .ok (.iload_n 3, 1) := by decide +kernel
theorem d_Mo_kits_153 : decode b_Mo_kits 153 = .ok (.istore 6, 2) := by decide +kernel
theorem d_Mo_kits_155 : decode b_Mo_kits 155 = .ok (.iload 6, 2) := by decide +kernel
theorem d_Mo_kits_157 : decode b_Mo_kits 157 = .ok (.iload_n 3, 1) := by decide +kernel
theorem d_Mo_kits_158 : decode b_Mo_kits 158 = .ok (.iload 4, 2) := by decide +kernel
theorem d_Mo_kits_160 : decode b_Mo_kits 160 = .ok (.iadd, 1) := by decide +kernel
theorem d_Mo_kits_161 : decode b_Mo_kits 161 = .ok (.if_icmp .ge 25, 3) := by decide +kernel
theorem d_Mo_kits_164 : decode b_Mo_kits 164 = .ok (.aload_n 0, 1) := by decide +kernel
theorem d_Mo_kits_165 : decode b_Mo_kits 165 = .ok (.getfield 37, 3) := by decide +kernel
theorem d_Mo_kits_168 : decode b_Mo_kits 168 = .ok (.iload 6, 2) := by decide +kernel
theorem d_Mo_kits_170 : decode b_Mo_kits 170 = .ok (.iload_n 1, 1) := by decide +kernel
theorem d_Mo_kits_171 : decode b_Mo_kits 171 = .ok (.iastore, 1) := by decide +kernel
theorem d_Mo_kits_172 : decode b_Mo_kits 172 = .ok (.aload_n 0, 1) := by decide +kernel
theorem d_Mo_kits_173 : decode b_Mo_kits 173 = .ok (.getfield 40, 3) := by decide +kernel
theorem d_Mo_kits_176 : decode b_Mo_kits 176 = .ok (.iload 6, 2) := by decide +kernel
theorem d_Mo_kits_178 : decode b_Mo_kits 178 = .ok (.iload_n 2, 1) := by decide +kernel
theorem d_Mo_kits_179 : decode b_Mo_kits 179 = .ok (.iastore, 1) := by decide +kernel
theorem d_Mo_kits_180 : decode b_Mo_kits 180 = .ok (.iinc 6 1, 3) := by decide +kernel
theorem d_Mo_kits_183 : decode b_Mo_kits 183 = .ok (.goto (-28), 3) := by decide +kernel
theorem d_Mo_kits_186 : decode b_Mo_kits 186 = .ok (.aload_n 0, 1) := by decide +kernel
theorem d_Mo_kits_187 : decode b_Mo_kits 187 = .ok (.iload_n 1, 1) := by decide +kernel
theorem d_Mo_kits_188 : decode b_Mo_kits 188 = .ok (.iload_n 2, 1) := by decide +kernel
theorem d_Mo_kits_189 : decode b_Mo_kits 189 = .ok (.invokevirtual 130, 3) := by decide +kernel
theorem d_Mo_kits_192 : decode b_Mo_kits 192 = .ok (.ireturn, 1) := by decide +kernel
theorem d_Mo_give_0 : decode b_Mo_give 0 = .ok (.bipush 100, 2) := by decide +kernel
theorem d_Mo_give_2 : decode b_Mo_give 2 = .ok (.iload_n 1, 1) := by decide +kernel
theorem d_Mo_give_3 : decode b_Mo_give 3 = .ok (.imul, 1) := by decide +kernel
theorem d_Mo_give_4 : decode b_Mo_give 4 = .ok (.iload_n 3, 1) := by decide +kernel
theorem d_Mo_give_5 : decode b_Mo_give 5 = .ok (.iadd, 1) := by decide +kernel
theorem d_Mo_give_6 : decode b_Mo_give 6 = .ok (.istore 7, 2) := by decide +kernel
theorem d_Mo_give_8 : decode b_Mo_give 8 = .ok (.aload_n 0, 1) := by decide +kernel
theorem d_Mo_give_9 : decode b_Mo_give 9 = .ok (.getfield 46, 3) := by decide +kernel
theorem d_Mo_give_12 : decode b_Mo_give 12 = .ok (.iload 7, 2) := by decide +kernel
theorem d_Mo_give_14 : decode b_Mo_give 14 = .ok (.iload 6, 2) := by decide +kernel
theorem d_Mo_give_16 : decode b_Mo_give 16 = .ok (.ifCond .eq 7, 3) := by decide +kernel
theorem d_Mo_give_19 : decode b_Mo_give 19 = .ok (.iconst 1, 1) := by decide +kernel
theorem d_Mo_give_20 : decode b_Mo_give 20 = .ok (.goto 4, 3) := by decide +kernel
theorem d_Mo_give_23 : decode b_Mo_give 23 = .ok (.iconst 2, 1) := by decide +kernel
theorem d_Mo_give_24 : decode b_Mo_give 24 = .ok (.iastore, 1) := by decide +kernel
theorem d_Mo_give_25 : decode b_Mo_give 25 = .ok (.aload_n 0, 1) := by decide +kernel
theorem d_Mo_give_26 : decode b_Mo_give 26 = .ok (.getfield 49, 3) := by decide +kernel
theorem d_Mo_give_29 : decode b_Mo_give 29 = .ok (.iload 7, 2) := by decide +kernel
theorem d_Mo_give_31 : decode b_Mo_give 31 = .ok (.iload_n 2, 1) := by decide +kernel
theorem d_Mo_give_32 : decode b_Mo_give 32 = .ok (.iastore, 1) := by decide +kernel
theorem d_Mo_give_33 : decode b_Mo_give 33 = .ok (.aload_n 0, 1) := by decide +kernel
theorem d_Mo_give_34 : decode b_Mo_give 34 = .ok (.getfield 52, 3) := by decide +kernel
theorem d_Mo_give_37 : decode b_Mo_give 37 = .ok (.iload 7, 2) := by decide +kernel
theorem d_Mo_give_39 : decode b_Mo_give 39 = .ok (.iload 4, 2) := by decide +kernel
theorem d_Mo_give_41 : decode b_Mo_give 41 = .ok (.iastore, 1) := by decide +kernel
theorem d_Mo_give_42 : decode b_Mo_give 42 = .ok (.aload_n 0, 1) := by decide +kernel
theorem d_Mo_give_43 : decode b_Mo_give 43 = .ok (.getfield 55, 3) := by decide +kernel
theorem d_Mo_give_46 : decode b_Mo_give 46 = .ok (.iload 7, 2) := by decide +kernel
theorem d_Mo_give_48 : decode b_Mo_give 48 = .ok (.iload 5, 2) := by decide +kernel
theorem d_Mo_give_50 : decode b_Mo_give 50 = .ok (.iastore, 1) := by decide +kernel
theorem d_Mo_give_51 : decode b_Mo_give 51 = .ok (.aload_n 0, 1) := by decide +kernel
theorem d_Mo_give_52 : decode b_Mo_give 52 = .ok (.getfield 43, 3) := by decide +kernel
theorem d_Mo_give_55 : decode b_Mo_give 55 = .ok (.iload 5, 2) := by decide +kernel
theorem d_Mo_give_57 : decode b_Mo_give 57 = .ok (.iconst 2, 1) := by decide +kernel
theorem d_Mo_give_58 : decode b_Mo_give 58 = .ok (.iastore, 1) := by decide +kernel
theorem d_Mo_give_59 : decode b_Mo_give 59 = .ok (.return_, 1) := by decide +kernel
theorem d_Mo_allot_0 : decode b_Mo_allot 0 = .ok (.aload_n 0, 1) := by decide +kernel
theorem d_Mo_allot_1 : decode b_Mo_allot 1 = .ok (.aload_n 0, 1) := by decide +kernel
theorem d_Mo_allot_2 : decode b_Mo_allot 2 = .ok (.iload_n 1, 1) := by decide +kernel
theorem d_Mo_allot_3 : decode b_Mo_allot 3 = .ok (.iload_n 3, 1) := by decide +kernel
theorem d_Mo_allot_4 : decode b_Mo_allot 4 = .ok (.invokevirtual 133, 3) := by decide +kernel
theorem d_Mo_allot_7 : decode b_Mo_allot 7 = .ok (.ifCond .eq 10, 3) := by decide +kernel
theorem d_Mo_allot_10 : decode b_Mo_allot 10 = .ok (.iload_n 2, 1) := by decide +kernel
theorem d_Mo_allot_11 : decode b_Mo_allot 11 = .ok (.invokestatic 137, 3) := by decide +kernel
theorem d_Mo_allot_14 : decode b_Mo_allot 14 = .ok (.ifCond .ne 7, 3) := by decide +kernel
theorem d_Mo_allot_17 : decode b_Mo_allot 17 = .ok (.iconst 1, 1) := by decide +kernel
theorem d_Mo_allot_18 : decode b_Mo_allot 18 = .ok (.goto 4, 3) := by decide +kernel
theorem d_Mo_allot_21 : decode b_Mo_allot 21 = .ok (.iconst 0, 1) := by decide +kernel
theorem d_Mo_allot_22 : decode b_Mo_allot 22 = .ok (.aload_n 0, 1) := by decide +kernel
theorem d_Mo_allot_23 : decode b_Mo_allot 23 = .ok (.getfield 82, 3) := by decide +kernel
theorem d_Mo_allot_26 : decode b_Mo_allot 26 = .ok (.ifCond .ne 7, 3) := by decide +kernel
theorem d_Mo_allot_29 : decode b_Mo_allot 29 = .ok (.iconst 1, 1) := by decide +kernel
theorem d_Mo_allot_30 : decode b_Mo_allot 30 = .ok (.goto 4, 3) := by decide +kernel
theorem d_Mo_allot_33 : decode b_Mo_allot 33 = .ok (.iconst 0, 1) := by decide +kernel
theorem d_Mo_allot_34 : decode b_Mo_allot 34 = .ok (.iconst 0, 1) := by decide +kernel
theorem d_Mo_allot_35 : decode b_Mo_allot 35 = .ok (.invokevirtual 98, 3) := by decide +kernel
theorem d_Mo_allot_38 : decode b_Mo_allot 38 = .ok (.ifCond .eq 5, 3) := by decide +kernel
theorem d_Mo_allot_41 : decode b_Mo_allot 41 = .ok (.iconst 0, 1) := by decide +kernel
theorem d_Mo_allot_42 : decode b_Mo_allot 42 = .ok (.ireturn, 1) := by decide +kernel
theorem d_Mo_allot_43 : decode b_Mo_allot 43 = .ok (.aload_n 0, 1) := by decide +kernel
theorem d_Mo_allot_44 : decode b_Mo_allot 44 = .ok (.getfield 89, 3) := by decide +kernel
theorem d_Mo_allot_47 : decode b_Mo_allot 47 = .ok (.ifCond .ne 20, 3) := by decide +kernel
theorem d_Mo_allot_50 : decode b_Mo_allot 50 = .ok (.aload_n 0, 1) := by decide +kernel
theorem d_Mo_allot_51 : decode b_Mo_allot 51 = .ok (.getfield 140, 3) := by decide +kernel
theorem d_Mo_allot_54 : decode b_Mo_allot 54 = .ok (.ifCond .ne 13, 3) := by decide +kernel
theorem d_Mo_allot_57 : decode b_Mo_allot 57 = .ok (.aload_n 0, 1) := by decide +kernel
theorem d_Mo_allot_58 : decode b_Mo_allot 58 = .ok (.getfield 34, 3) := by decide +kernel
theorem d_Mo_allot_61 : decode b_Mo_allot 61 = .ok (.iload_n 1, 1) := by decide +kernel
theorem d_Mo_allot_62 : decode b_Mo_allot 62 = .ok (.iaload, 1) := by decide +kernel
theorem d_Mo_allot_63 : decode b_Mo_allot 63 = .ok (.iconst 2, 1) := by decide +kernel
theorem d_Mo_allot_64 : decode b_Mo_allot 64 = .ok (.if_icmp .ne 30, 3) := by decide +kernel
theorem d_Mo_allot_67 : decode b_Mo_allot 67 = .ok (.aload_n 0, 1) := by decide +kernel
theorem d_Mo_allot_68 : decode b_Mo_allot 68 = .ok (.getfield 89, 3) := by decide +kernel
theorem d_Mo_allot_71 : decode b_Mo_allot 71 = .ok (.ifCond .eq 8, 3) := by decide +kernel
theorem d_Mo_allot_74 : decode b_Mo_allot 74 = .ok (.bipush (-2), 2) := by decide +kernel
theorem d_Mo_allot_76 : decode b_Mo_allot 76 = .ok (.goto 17, 3) := by decide +kernel
theorem d_Mo_allot_79 : decode b_Mo_allot 79 = .ok (.aload_n 0, 1) := by decide +kernel
theorem d_Mo_allot_80 : decode b_Mo_allot 80 = .ok (.getfield 140, 3) := by decide +kernel
theorem d_Mo_allot_83 : decode b_Mo_allot 83 = .ok (.ifCond .eq 8, 3) := by decide +kernel
theorem d_Mo_allot_86 : decode b_Mo_allot 86 = .ok (.bipush (-3), 2) := by decide +kernel
theorem d_Mo_allot_88 : decode b_Mo_allot 88 = .ok (.goto 5, 3) := by decide +kernel
theorem d_Mo_allot_91 : decode b_Mo_allot 91 = .ok (.bipush (-4), 2) := by decide +kernel
theorem d_Mo_allot_93 : decode b_Mo_allot 93 = .ok (.ireturn, 1) := by decide +kernel
theorem d_Mo_allot_94 : decode b_Mo_allot 94 = .ok (.aload_n 0, 1) := by decide +kernel
theorem d_Mo_allot_95 : decode b_Mo_allot 95 = .ok (.getfield 46, 3) := by decide +kernel
theorem d_Mo_allot_98 : decode b_Mo_allot 98 = .ok (.bipush 100, 2) := by decide +kernel
theorem d_Mo_allot_100 : decode b_Mo_allot 100 = .ok (.iload_n 1, 1) := by decide +kernel
theorem d_Mo_allot_101 : decode b_Mo_allot 101 = .ok (.imul, 1) := by decide +kernel
theorem d_Mo_allot_102 : decode b_Mo_allot 102 = .ok (.iload_n 3, 1) := by decide +kernel
theorem d_Mo_allot_103 : decode b_Mo_allot 103 = .ok (.iadd, 1) := by decide +kernel
theorem d_Mo_allot_104 : decode b_Mo_allot 104 = .ok (.iaload, 1) := by decide +kernel
theorem d_Mo_allot_105 : decode b_Mo_allot 105 = .ok (.ifCond .le 6, 3) := by decide +kernel
theorem d_Mo_allot_108 : decode b_Mo_allot 108 = .ok (.bipush (-5), 2) := by decide +kernel
theorem d_Mo_allot_110 : decode b_Mo_allot 110 = .ok (.ireturn, 1) := by decide +kernel
theorem d_Mo_allot_111 : decode b_Mo_allot 111 = .ok (.aload_n 0, 1) := by decide +kernel
theorem d_Mo_allot_112 : decode b_Mo_allot 112 = .ok (.iload_n 2, 1) := by decide +kernel
theorem d_Mo_allot_113 : decode b_Mo_allot 113 = .ok (.invokevirtual 143, 3) := by decide +kernel
theorem d_Mo_allot_116 : decode b_Mo_allot 116 = .ok (.istore 4, 2) := by decide +kernel
theorem d_Mo_allot_118 : decode b_Mo_allot 118 = .ok (.aload_n 0, 1) := by decide +kernel
theorem d_Mo_allot_119 : decode b_Mo_allot 119 = .ok (.iload_n 1, 1) := by decide +kernel
theorem d_Mo_allot_120 : decode b_Mo_allot 120 = .ok (.iload 4, 2) := by decide +kernel
theorem d_Mo_allot_122 : decode b_Mo_allot 122 = .ok (.invokevirtual 146, 3) := by decide +kernel
theorem d_Mo_allot_125 : decode b_Mo_allot 125 = .ok (.istore 5, 2) := by decide +kernel
theorem d_Mo_allot_127 : decode b_Mo_allot 127 = .ok (.iload 5, 2) := by decide +kernel
theorem d_Mo_allot_129 : decode b_Mo_allot 129 = .ok (.ifCond .ge 6, 3) := by decide +kernel
theorem d_Mo_allot_132 : decode b_Mo_allot 132 = .ok (.bipush (-6), 2) := by decide +kernel
theorem d_Mo_allot_134 : decode b_Mo_allot 134 = .ok (.ireturn, 1) := by decide +kernel
theorem d_Mo_allot_135 : decode b_Mo_allot 135 = .ok (.aload_n 0, 1) := by decide +kernel
theorem d_Mo_allot_136 : decode b_Mo_allot 136 = .ok (.invokevirtual 102, 3) := by decide +kernel
theorem d_Mo_allot_139 : decode b_Mo_allot 139 = .ok (.ifCond .ne 6, 3) := by decide +kernel
theorem d_Mo_allot_142 : decode b_Mo_allot 142 = .ok (.bipush (-2), 2) := by decide +kernel
theorem d_Mo_allot_144 : decode b_Mo_allot 144 = .ok (.ireturn, 1) := by decide +kernel
theorem d_Mo_allot_145 : decode b_Mo_allot 145 = .ok (.aload_n 0, 1) := by decide +kernel
theorem d_Mo_allot_146 : decode b_Mo_allot 146 = .ok (.getfield 28, 3) := by decide +kernel
theorem d_Mo_allot_149 : decode b_Mo_allot 149 = .ok (.iload_n 2, 1) := by decide +kernel
theorem d_Mo_allot_150 : decode b_Mo_allot 150 = .ok (.iaload, 1) := by decide +kernel
theorem d_Mo_allot_151 : decode b_Mo_allot 151 = .ok (.ifCond .lt 16, 3) := by decide +kernel
theorem d_Mo_allot_154 : decode b_Mo_allot 154 = .ok (.aload_n 0, 1) := by decide +kernel
theorem d_Mo_allot_155 : decode b_Mo_allot 155 = .ok (.getfield 31, 3) := by decide +kernel
theorem d_Mo_allot_158 : decode b_Mo_allot 158 = .ok (.iload_n 2, 1) := by decide +kernel
theorem d_Mo_allot_159 : decode b_Mo_allot 159 = .ok (.iaload, 1) := by decide +kernel
theorem d_Mo_allot_160 : decode b_Mo_allot 160 = .ok (.aload_n 0, 1) := by decide +kernel
theorem d_Mo_allot_161 : decode b_Mo_allot 161 = .ok (.getfield 106, 3) := by decide +kernel
theorem d_Mo_allot_164 : decode b_Mo_allot 164 = .ok (.if_icmp .ne 21, 3) := by decide +kernel
theorem d_Mo_allot_167 : decode b_Mo_allot 167 = .ok (.aload_n 0, 1) := by decide +kernel
theorem d_Mo_allot_168 : decode b_Mo_allot 168 = .ok (.getfield 28, 3) := by decide +kernel
theorem d_Mo_allot_171 : decode b_Mo_allot 171 = .ok (.iload_n 2, 1) := by decide +kernel
theorem d_Mo_allot_172 : decode b_Mo_allot 172 = .ok (.aload_n 0, 1) := by decide +kernel
theorem d_Mo_allot_173 : decode b_Mo_allot 173 = .ok (.iload_n 2, 1) := by decide +kernel
theorem d_Mo_allot_174 : decode b_Mo_allot 174 = .ok (.invokevirtual 121, 3) := by decide +kernel
theorem d_Mo_allot_177 : decode b_Mo_allot 177 = .ok (.iastore, 1) := by decide +kernel
theorem d_Mo_allot_178 : decode b_Mo_allot 178 = .ok (.aload_n 0, 1) := by decide +kernel
theorem d_Mo_allot_179 : decode b_Mo_allot 179 = .ok (.getfield 31, 3) := by decide +kernel
theorem d_Mo_allot_182 : decode b_Mo_allot 182 = .ok (.iload_n 2, 1) := by decide +kernel
theorem d_Mo_allot_183 : decode b_Mo_allot 183 = .ok (.iconst 0, 1) := by decide +kernel
theorem d_Mo_allot_184 : decode b_Mo_allot 184 = .ok (.iastore, 1) := by decide +kernel
theorem d_Mo_allot_185 : decode b_Mo_allot 185 = .ok (.aload_n 0, 1) := by decide +kernel
theorem d_Mo_allot_186 : decode b_Mo_allot 186 = .ok (.getfield 31, 3) := by decide +kernel
theorem d_Mo_allot_189 : decode b_Mo_allot 189 = .ok (.iload_n 2, 1) := by decide +kernel
theorem d_Mo_allot_190 : decode b_Mo_allot 190 = .ok (.dup2, 1) := by decide +kernel
theorem d_Mo_allot_191 : decode b_Mo_allot 191 = .ok (.iaload, 1) := by decide +kernel
theorem d_Mo_allot_192 : decode b_Mo_allot 192 = .ok (.iconst 1, 1) := by decide +kernel
theorem d_Mo_allot_193 : decode b_Mo_allot 193 = .ok (.iadd, 1) := by decide +kernel
theorem d_Mo_allot_194 : decode b_Mo_allot 194 = .ok (.iastore, 1) := by decide +kernel
theorem d_Mo_allot_195 : decode b_Mo_allot 195 = .ok (.aload_n 0, 1) := by decide +kernel
theorem d_Mo_allot_196 : decode b_Mo_allot 196 = .ok (.iload_n 1, 1) := by decide +kernel
theorem d_Mo_allot_197 : decode b_Mo_allot 197 = .ok (.iload_n 2, 1) := by decide +kernel
theorem d_Mo_allot_198 : decode b_Mo_allot 198 = .ok (.iload_n 3, 1) := by decide +kernel
theorem d_Mo_allot_199 : decode b_Mo_allot 199 = .ok (.iload 4, 2) := by decide +kernel
theorem d_Mo_allot_201 : decode b_Mo_allot 201 = .ok (.iload 5, 2) := by decide +kernel
theorem d_Mo_allot_203 : decode b_Mo_allot 203 = .ok (.iconst 1, 1) := by decide +kernel
theorem d_Mo_allot_204 : decode b_Mo_allot 204 = .ok (.invokevirtual 149, 3) := by decide +kernel
theorem d_Mo_allot_207 : decode b_Mo_allot 207 = .ok (.iload 5, 2) := by decide +kernel
theorem d_Mo_allot_209 : decode b_Mo_allot 209 = .ok (.ireturn, 1) := by decide +kernel
theorem d_Mo_reserve_0 : decode b_Mo_reserve 0 = .ok (.aload_n 0, 1) := by decide +kernel
theorem d_Mo_reserve_1 : decode b_Mo_reserve 1 = .ok (.aload_n 0, 1) := by decide +kernel
theorem d_Mo_reserve_2 : decode b_Mo_reserve 2 = .ok (.iload_n 1, 1) := by decide +kernel
theorem d_Mo_reserve_3 : decode b_Mo_reserve 3 = .ok (.invokevirtual 78, 3) := by decide +kernel
theorem d_Mo_reserve_6 : decode b_Mo_reserve 6 = .ok (.ifCond .eq 10, 3) := by decide +kernel
theorem d_Mo_reserve_9 : decode b_Mo_reserve 9 = .ok (.iload_n 2, 1) := by decide +kernel
theorem d_Mo_reserve_10 : decode b_Mo_reserve 10 = .ok (.invokestatic 137, 3) := by decide +kernel
theorem d_Mo_reserve_13 : decode b_Mo_reserve 13 = .ok (.ifCond .ne 7, 3) := by decide +kernel
theorem d_Mo_reserve_16 : decode b_Mo_reserve 16 = .ok (.iconst 1, 1) := by decide +kernel
theorem d_Mo_reserve_17 : decode b_Mo_reserve 17 = .ok (.goto 4, 3) := by decide +kernel
theorem d_Mo_reserve_20 : decode b_Mo_reserve 20 = .ok (.iconst 0, 1) := by decide +kernel
theorem d_Mo_reserve_21 : decode b_Mo_reserve 21 = .ok (.aload_n 0, 1) := by decide +kernel
theorem d_Mo_reserve_22 : decode b_Mo_reserve 22 = .ok (.getfield 82, 3) := by decide +kernel
theorem d_Mo_reserve_25 : decode b_Mo_reserve 25 = .ok (.ifCond .ne 7, 3) := by decide +kernel
theorem d_Mo_reserve_28 : decode b_Mo_reserve 28 = .ok (.iconst 1, 1) := by decide +kernel
theorem d_Mo_reserve_29 : decode b_Mo_reserve 29 = .ok (.goto 4, 3) := by decide +kernel
theorem d_Mo_reserve_32 : decode b_Mo_reserve 32 = .ok (.iconst 0, 1) := by decide +kernel
theorem d_Mo_reserve_33 : decode b_Mo_reserve 33 = .ok (.iconst 0, 1) := by decide +kernel
theorem d_Mo_reserve_34 : decode b_Mo_reserve 34 = .ok (.invokevirtual 98, 3) := by decide +kernel
theorem d_Mo_reserve_37 : decode b_Mo_reserve 37 = .ok (.ifCond .eq 5, 3) := by decide +kernel
theorem d_Mo_reserve_40 : decode b_Mo_reserve 40 = .ok (.iconst 0, 1) := by decide +kernel
theorem d_Mo_reserve_41 : decode b_Mo_reserve 41 = .ok (.ireturn, 1) := by decide +kernel
theorem d_Mo_reserve_42 : decode b_Mo_reserve 42 = .ok (.aload_n 0, 1) := by decide +kernel
theorem d_Mo_reserve_43 : decode b_Mo_reserve 43 = .ok (.getfield 89, 3) := by decide +kernel
theorem d_Mo_reserve_46 : decode b_Mo_reserve 46 = .ok (.ifCond .ne 20, 3) := by decide +kernel
theorem d_Mo_reserve_49 : decode b_Mo_reserve 49 = .ok (.aload_n 0, 1) := by decide +kernel
theorem d_Mo_reserve_50 : decode b_Mo_reserve 50 = .ok (.getfield 140, 3) := by decide +kernel
theorem d_Mo_reserve_53 : decode b_Mo_reserve 53 = .ok (.ifCond .ne 13, 3) := by decide +kernel
theorem d_Mo_reserve_56 : decode b_Mo_reserve 56 = .ok (.aload_n 0, 1) := by decide +kernel
theorem d_Mo_reserve_57 : decode b_Mo_reserve 57 = .ok (.getfield 34, 3) := by decide +kernel
theorem d_Mo_reserve_60 : decode b_Mo_reserve 60 = .ok (.iload_n 1, 1) := by decide +kernel
theorem d_Mo_reserve_61 : decode b_Mo_reserve 61 = .ok (.iaload, 1) := by decide +kernel
theorem d_Mo_reserve_62 : decode b_Mo_reserve 62 = .ok (.iconst 2, 1) := by decide +kernel
theorem d_Mo_reserve_63 : decode b_Mo_reserve 63 = .ok (.if_icmp .ne 30, 3) := by decide +kernel
theorem d_Mo_reserve_66 : decode b_Mo_reserve 66 = .ok (.aload_n 0, 1) := by decide +kernel
theorem d_Mo_reserve_67 : decode b_Mo_reserve 67 = .ok (.getfield 89, 3) := by decide +kernel
theorem d_Mo_reserve_70 : decode b_Mo_reserve 70 = .ok (.ifCond .eq 8, 3) := by decide +kernel
theorem d_Mo_reserve_73 : decode b_Mo_reserve 73 = .ok (.bipush (-2), 2) := by decide +kernel
theorem d_Mo_reserve_75 : decode b_Mo_reserve 75 = .ok (.goto 17, 3) := by decide +kernel
theorem d_Mo_reserve_78 : decode b_Mo_reserve 78 = .ok (.aload_n 0, 1) := by decide +kernel
theorem d_Mo_reserve_79 : decode b_Mo_reserve 79 = .ok (.getfield 140, 3) := by decide +kernel
theorem d_Mo_reserve_82 : decode b_Mo_reserve 82 = .ok (.ifCond .eq 8, 3) := by decide +kernel
theorem d_Mo_reserve_85 : decode b_Mo_reserve 85 = .ok (.bipush (-3), 2) := by decide +kernel
theorem d_Mo_reserve_87 : decode b_Mo_reserve 87 = .ok (.goto 5, 3) := by decide +kernel
theorem d_Mo_reserve_90 : decode b_Mo_reserve 90 = .ok (.bipush (-4), 2) := by decide +kernel
theorem d_Mo_reserve_92 : decode b_Mo_reserve 92 = .ok (.ireturn, 1) := by decide +kernel
theorem d_Mo_reserve_93 : decode b_Mo_reserve 93 = .ok (.bipush 8, 2) := by decide +kernel
theorem d_Mo_reserve_95 : decode b_Mo_reserve 95 = .ok (.iload_n 1, 1) := by decide +kernel
theorem d_Mo_reserve_96 : decode b_Mo_reserve 96 = .ok (.imul, 1) := by decide +kernel
theorem d_Mo_reserve_97 : decode b_Mo_reserve 97 = .ok (.iload_n 2, 1) := by decide +kernel
theorem d_Mo_reserve_98 : decode b_Mo_reserve 98 = .ok (.iadd, 1) := by decide +kernel
theorem d_Mo_reserve_99 : decode b_Mo_reserve 99 = .ok (.istore_n 3, 1) := by decide +kernel
theorem d_Mo_reserve_100 : decode b_Mo_reserve 100 = .ok (.aload_n 0, 1) := by decide +kernel
theorem d_Mo_reserve_101 : decode b_Mo_reserve 101 = .ok (.getfield 61, 3) := by decide +kernel
theorem d_Mo_reserve_104 : decode b_Mo_reserve 104 = .ok (.iload_n 3, 1) := by decide +kernel
theorem d_Mo_reserve_105 : decode b_Mo_reserve 105 = .ok (.iaload, 1) := by decide +kernel
theorem d_Mo_reserve_106 : decode b_Mo_reserve 106 = .ok (.ifCond .lt 6, 3) := by decide +kernel
theorem d_Mo_reserve_109 : decode b_Mo_reserve 109 = .ok (.bipush (-8), 2) := by decide +kernel
theorem d_Mo_reserve_111 : decode b_Mo_reserve 111 = .ok (.ireturn, 1) := by decide +kernel
theorem d_Mo_reserve_112 : decode b_Mo_reserve 112 = .ok (.aload_n 0, 1) := by decide +kernel
theorem d_Mo_reserve_113 : decode b_Mo_reserve 113 = .ok (.getfield 7, 3) := by decide +kernel
theorem d_Mo_reserve_116 : decode b_Mo_reserve 116 = .ok (.iconst 0, 1) := by decide +kernel
theorem d_Mo_reserve_117 : decode b_Mo_reserve 117 = .ok (.iaload, 1) := by decide +kernel
theorem d_Mo_reserve_118 : decode b_Mo_reserve 118 = .ok (.aload_n 0, 1) := by decide +kernel
theorem d_Mo_reserve_119 : decode b_Mo_reserve 119 = .ok (.getfield 7, 3) := by decide +kernel
theorem d_Mo_reserve_122 : decode b_Mo_reserve 122 = .ok (.iconst 1, 1) := by decide +kernel
theorem d_Mo_reserve_123 : decode b_Mo_reserve 123 = .ok (.iaload, 1) := by decide +kernel
theorem d_Mo_reserve_124 : decode b_Mo_reserve 124 = .ok (.iadd, 1) := by decide +kernel
theorem d_Mo_reserve_125 : decode b_Mo_reserve 125 = .ok (.aload_n 0, 1) := by decide +kernel
theorem d_Mo_reserve_126 : decode b_Mo_reserve 126 = .ok (.getfield 7, 3) := by decide +kernel
theorem d_Mo_reserve_129 : decode b_Mo_reserve 129 = .ok (.iconst 2, 1) := by decide +kernel
theorem d_Mo_reserve_130 : decode b_Mo_reserve 130 = .ok (.iaload, 1) := by decide +kernel
theorem d_Mo_reserve_131 : decode b_Mo_reserve 131 = .ok (.iadd, 1) := by decide +kernel
theorem d_Mo_reserve_132 : decode b_Mo_reserve 132 = .ok (.aload_n 0, 1) := by decide +kernel
theorem d_Mo_reserve_133 : decode b_Mo_reserve 133 = .ok (.getfield 7, 3) := by decide +kernel
theorem d_Mo_reserve_136 : decode b_Mo_reserve 136 = .ok (.iconst 3, 1) := by decide +kernel
theorem d_Mo_reserve_137 : decode b_Mo_reserve 137 = .ok (.iaload, 1) := by decide +kernel
theorem d_Mo_reserve_138 : decode b_Mo_reserve 138 = .ok (.iadd, 1) := by decide +kernel
theorem d_Mo_reserve_139 : decode b_Mo_reserve 139 = .ok (.istore 4, 2) := by decide +kernel
theorem d_Mo_reserve_141 : decode b_Mo_reserve 141 = .ok (.iconst 0, 1) := by decide +kernel
theorem d_Mo_reserve_142 : decode b_Mo_reserve 142 = .ok (.istore 5, 2) := by decide +kernel
theorem d_Mo_reserve_144 : decode b_Mo_reserve 144 = .ok (.iload 5, 2) := by decide +kernel
theorem d_Mo_reserve_146 : decode b_Mo_reserve 146 = .ok (.aload_n 0, 1) := by decide +kernel
theorem d_Mo_reserve_147 : decode b_Mo_reserve 147 = .ok (.getfield 82, 3) := by decide +kernel
theorem d_Mo_reserve_150 : decode b_Mo_reserve 150 = .ok (.if_icmp .ge 37, 3) := by decide +kernel
theorem d_Mo_reserve_153 : decode b_Mo_reserve 153 = .ok (.aload_n 0, 1) := by decide +kernel
theorem d_Mo_reserve_154 : decode b_Mo_reserve 154 = .ok (.iload_n 1, 1) := by decide +kernel
theorem d_Mo_reserve_155 : decode b_Mo_reserve 155 = .ok (.iload 5, 2) := by decide +kernel
theorem d_Mo_reserve_157 : decode b_Mo_reserve 157 = .ok (.invokevirtual 130, 3) := by decide +kernel
theorem d_Mo_reserve_160 : decode b_Mo_reserve 160 = .ok (.aload_n 0, 1) := by decide +kernel
theorem d_Mo_reserve_161 : decode b_Mo_reserve 161 = .ok (.getfield 7, 3) := by decide +kernel
theorem d_Mo_reserve_164 : decode b_Mo_reserve 164 = .ok (.iload 5, 2) := by decide +kernel
theorem d_Mo_reserve_166 : decode b_Mo_reserve 166 = .ok (.iaload, 1) := by decide +kernel
theorem d_Mo_reserve_167 : decode b_Mo_reserve 167 = .ok (.aload_n 0, 1) := by decide +kernel
theorem d_Mo_reserve_168 : decode b_Mo_reserve 168 = .ok (.getfield 106, 3) := by decide +kernel
theorem d_Mo_reserve_171 : decode b_Mo_reserve 171 = .ok (.iload 4, 2) := by decide +kernel
theorem d_Mo_reserve_173 : decode b_Mo_reserve 173 = .ok (.idiv, 1) := by decide +kernel
theorem d_Mo_reserve_174 : decode b_Mo_reserve 174 = .ok (.imul, 1) := by decide +kernel
theorem d_Mo_reserve_175 : decode b_Mo_reserve 175 = .ok (.if_icmp .ge 6, 3) := by decide +kernel
theorem d_Mo_reserve_178 : decode b_Mo_reserve 178 = .ok (.bipush (-6), 2) := by decide +kernel
theorem d_Mo_reserve_180 : decode b_Mo_reserve 180 = .ok (.ireturn, 1) := by decide +kernel
theorem d_Mo_reserve_181 : decode b_Mo_reserve 181 = .ok (.iinc 5 1, 3) := by decide +kernel
theorem d_Mo_reserve_184 : decode b_Mo_reserve 184 = .ok (.goto (-40), 3) := by decide +kernel
theorem d_Mo_reserve_187 : decode b_Mo_reserve 187 = .ok (.aload_n 0, 1) := by decide +kernel
theorem d_Mo_reserve_188 : decode b_Mo_reserve 188 = .ok (.invokevirtual 102, 3) := by decide +kernel
theorem d_Mo_reserve_191 : decode b_Mo_reserve 191 = .ok (.ifCond .ne 6, 3) := by decide +kernel
theorem d_Mo_reserve_194 : decode b_Mo_reserve 194 = .ok (.bipush (-2), 2) := by decide +kernel
theorem d_Mo_reserve_196 : decode b_Mo_reserve 196 = .ok (.ireturn, 1) := by decide +kernel
theorem d_Mo_reserve_197 : decode b_Mo_reserve 197 = .ok (.aload_n 0, 1) := by decide +kernel
theorem d_Mo_reserve_198 : decode b_Mo_reserve 198 = .ok (.getfield 61, 3) := by decide +kernel
theorem d_Mo_reserve_201 : decode b_Mo_reserve 201 = .ok (.iload_n 3, 1) := by decide +kernel
theorem d_Mo_reserve_202 : decode b_Mo_reserve 202 = .ok (.aload_n 0, 1) := by decide +kernel
theorem d_Mo_reserve_203 : decode b_Mo_reserve 203 = .ok (.iload_n 2, 1) := by decide +kernel
theorem d_Mo_reserve_204 : decode b_Mo_reserve 204 = .ok (.invokevirtual 121, 3) := by decide +kernel
theorem d_Mo_reserve_207 : decode b_Mo_reserve 207 = .ok (.iastore, 1) := by decide +kernel
theorem d_Mo_reserve_208 : decode b_Mo_reserve 208 = .ok (.aload_n 0, 1) := by decide +kernel
theorem d_Mo_reserve_209 : decode b_Mo_reserve 209 = .ok (.getfield 64, 3) := by decide +kernel
theorem d_Mo_reserve_212 : decode b_Mo_reserve 212 = .ok (.iload_n 3, 1) := by decide +kernel
theorem d_Mo_reserve_213 : decode b_Mo_reserve 213 = .ok (.iconst 0, 1) := by decide +kernel
theorem d_Mo_reserve_214 : decode b_Mo_reserve 214 = .ok (.iastore, 1) := by decide +kernel
theorem d_Mo_reserve_215 : decode b_Mo_reserve 215 = .ok (.iconst 0, 1) := by decide +kernel
theorem d_Mo_reserve_216 : decode b_Mo_reserve 216 = .ok (.istore 5, 2) := by decide +kernel
theorem d_Mo_reserve_218 : decode b_Mo_reserve 218 = .ok (.iload 5, 2) := by decide +kernel
theorem d_Mo_reserve_220 : decode b_Mo_reserve 220 = .ok (.aload_n 0, 1) := by decide +kernel
theorem d_Mo_reserve_221 : decode b_Mo_reserve 221 = .ok (.getfield 106, 3) := by decide +kernel
theorem d_Mo_reserve_224 : decode b_Mo_reserve 224 = .ok (.if_icmp .ge 55, 3) := by decide +kernel
theorem d_Mo_reserve_227 : decode b_Mo_reserve 227 = .ok (.aload_n 0, 1) := by decide +kernel
theorem d_Mo_reserve_228 : decode b_Mo_reserve 228 = .ok (.iload_n 1, 1) := by decide +kernel
theorem d_Mo_reserve_229 : decode b_Mo_reserve 229 = .ok (.aload_n 0, 1) := by decide +kernel
theorem d_Mo_reserve_230 : decode b_Mo_reserve 230 = .ok (.getfield 17, 3) := by decide +kernel
theorem d_Mo_reserve_233 : decode b_Mo_reserve 233 = .ok (.bipush 24, 2) := by decide +kernel
theorem d_Mo_reserve_235 : decode b_Mo_reserve 235 = .ok (.aload_n 0, 1) := by decide +kernel
theorem d_Mo_reserve_236 : decode b_Mo_reserve 236 = .ok (.getfield 61, 3) := by decide +kernel
theorem d_Mo_reserve_239 : decode b_Mo_reserve 239 = .ok (.iload_n 3, 1) := by decide +kernel
theorem d_Mo_reserve_240 : decode b_Mo_reserve 240 = .ok (.iaload, 1) := by decide +kernel
theorem d_Mo_reserve_241 : decode b_Mo_reserve 241 = .ok (.imul, 1) := by decide +kernel
theorem d_Mo_reserve_242 : decode b_Mo_reserve 242 = .ok (.iload 5, 2) := by decide +kernel
theorem d_Mo_reserve_244 : decode b_Mo_reserve 244 = .ok (.iadd, 1) := by decide +kernel
theorem d_Mo_reserve_245 : decode b_Mo_reserve 245 = .ok (.baload, 1) := by decide +kernel
theorem d_Mo_reserve_246 : decode b_Mo_reserve 246 = .ok (.invokevirtual 146, 3) := by decide +kernel
theorem d_Mo_reserve_249 : decode b_Mo_reserve 249 = .ok (.istore 6, 2) := by decide +kernel
theorem d_Mo_reserve_251 : decode b_Mo_reserve 251 = .ok (.aload_n 0, 1) := by decide +kernel
theorem d_Mo_reserve_252 : decode b_Mo_reserve 252 = .ok (.getfield 67, 3) := by decide +kernel
theorem d_Mo_reserve_255 : decode b_Mo_reserve 255 = .ok (.bipush 24, 2) := by decide +kernel
theorem d_Mo_reserve_257 : decode b_Mo_reserve 257 = .ok (.iload_n 3, 1) := by decide +kernel
theorem d_Mo_reserve_258 : decode b_Mo_reserve 258 = .ok (.imul, 1) := by decide +kernel
theorem d_Mo_reserve_259 : decode b_Mo_reserve 259 = .ok (.iload 5, 2) := by decide +kernel
theorem d_Mo_reserve_261 : decode b_Mo_reserve 261 = .ok (.iadd, 1) := by decide +kernel
theorem d_Mo_reserve_262 : decode b_Mo_reserve 262 = .ok (.iload 6, 2) := by decide +kernel
theorem d_Mo_reserve_264 : decode b_Mo_reserve 264 = .ok (.iastore, 1) := by decide +kernel
theorem d_Mo_reserve_265 : decode b_Mo_reserve 265 = .ok (.aload_n 0, 1) := by decide +kernel
theorem d_Mo_reserve_266 : decode b_Mo_reserve 266 = .ok (.getfield 43, 3) := by decide +kernel
theorem d_Mo_reserve_269 : decode b_Mo_reserve 269 = .ok (.iload 6, 2) := by decide +kernel
theorem d_Mo_reserve_271 : decode b_Mo_reserve 271 = .ok (.iconst 1, 1) := by decide +kernel
theorem d_Mo_reserve_272 : decode b_Mo_reserve 272 = .ok (.iastore, 1) := by decide +kernel
theorem d_Mo_reserve_273 : decode b_Mo_reserve 273 = .ok (.iinc 5 1, 3) := by decide +kernel
theorem d_Mo_reserve_276 : decode b_Mo_reserve 276 = .ok (.goto (-58), 3) := by decide +kernel
theorem d_Mo_reserve_279 : decode b_Mo_reserve 279 = .ok (.aload_n 0, 1) := by decide +kernel
theorem d_Mo_reserve_280 : decode b_Mo_reserve 280 = .ok (.getfield 21, 3) := by decide +kernel
theorem d_Mo_reserve_283 : decode b_Mo_reserve 283 = .ok (.iload_n 2, 1) := by decide +kernel
theorem d_Mo_reserve_284 : decode b_Mo_reserve 284 = .ok (.iaload, 1) := by decide +kernel
theorem d_Mo_reserve_285 : decode b_Mo_reserve 285 = .ok (.iconst 1, 1) := by decide +kernel
theorem d_Mo_reserve_286 : decode b_Mo_reserve 286 = .ok (.isub, 1) := by decide +kernel
theorem d_Mo_reserve_287 : decode b_Mo_reserve 287 = .ok (.ireturn, 1) := by decide +kernel
theorem d_Mo_offline_0 : decode b_Mo_offline 0 = .ok (.aload_n 0, 1) := by decide +kernel
theorem d_Mo_offline_1 : decode b_Mo_offline 1 = .ok (.aload_n 0, 1) := by decide +kernel
theorem d_Mo_offline_2 : decode b_Mo_offline 2 = .ok (.iload_n 1, 1) := by decide +kernel
theorem d_Mo_offline_3 : decode b_Mo_offline 3 = .ok (.iload_n 3, 1) := by decide +kernel
theorem d_Mo_offline_4 : decode b_Mo_offline 4 = .ok (.invokevirtual 133, 3) := by decide +kernel
theorem d_Mo_offline_7 : decode b_Mo_offline 7 = .ok (.ifCond .eq 10, 3) := by decide +kernel
theorem d_Mo_offline_10 : decode b_Mo_offline 10 = .ok (.iload_n 2, 1) := by decide +kernel
theorem d_Mo_offline_11 : decode b_Mo_offline 11 = .ok (.invokestatic 137, 3) := by decide +kernel
theorem d_Mo_offline_14 : decode b_Mo_offline 14 = .ok (.ifCond .ne 7, 3) := by decide +kernel
theorem d_Mo_offline_17 : decode b_Mo_offline 17 = .ok (.iconst 1, 1) := by decide +kernel
theorem d_Mo_offline_18 : decode b_Mo_offline 18 = .ok (.goto 4, 3) := by decide +kernel
theorem d_Mo_offline_21 : decode b_Mo_offline 21 = .ok (.iconst 0, 1) := by decide +kernel
theorem d_Mo_offline_22 : decode b_Mo_offline 22 = .ok (.aload_n 0, 1) := by decide +kernel
theorem d_Mo_offline_23 : decode b_Mo_offline 23 = .ok (.getfield 82, 3) := by decide +kernel
theorem d_Mo_offline_26 : decode b_Mo_offline 26 = .ok (.ifCond .ne 7, 3) := by decide +kernel
theorem d_Mo_offline_29 : decode b_Mo_offline 29 = .ok (.iconst 1, 1) := by decide +kernel
theorem d_Mo_offline_30 : decode b_Mo_offline 30 = .ok (.goto 4, 3) := by decide +kernel
theorem d_Mo_offline_33 : decode b_Mo_offline 33 = .ok (.iconst 0, 1) := by decide +kernel
theorem d_Mo_offline_34 : decode b_Mo_offline 34 = .ok (.iconst 0, 1) := by decide +kernel
theorem d_Mo_offline_35 : decode b_Mo_offline 35 = .ok (.invokevirtual 98, 3) := by decide +kernel
theorem d_Mo_offline_38 : decode b_Mo_offline 38 = .ok (.ifCond .eq 5, 3) := by decide +kernel
theorem d_Mo_offline_41 : decode b_Mo_offline 41 = .ok (.iconst 0, 1) := by decide +kernel
theorem d_Mo_offline_42 : decode b_Mo_offline 42 = .ok (.ireturn, 1) := by decide +kernel
theorem d_Mo_offline_43 : decode b_Mo_offline 43 = .ok (.aload_n 0, 1) := by decide +kernel
theorem d_Mo_offline_44 : decode b_Mo_offline 44 = .ok (.getfield 89, 3) := by decide +kernel
theorem d_Mo_offline_47 : decode b_Mo_offline 47 = .ok (.ifCond .ne 13, 3) := by decide +kernel
theorem d_Mo_offline_50 : decode b_Mo_offline 50 = .ok (.aload_n 0, 1) := by decide +kernel
theorem d_Mo_offline_51 : decode b_Mo_offline 51 = .ok (.getfield 34, 3) := by decide +kernel
theorem d_Mo_offline_54 : decode b_Mo_offline 54 = .ok (.iload_n 1, 1) := by decide +kernel
theorem d_Mo_offline_55 : decode b_Mo_offline 55 = .ok (.iaload, 1) := by decide +kernel
theorem d_Mo_offline_56 : decode b_Mo_offline 56 = .ok (.iconst 2, 1) := by decide +kernel
theorem d_Mo_offline_57 : decode b_Mo_offline 57 = .ok (.if_icmp .ne 18, 3) := by decide +kernel
theorem d_Mo_offline_60 : decode b_Mo_offline 60 = .ok (.aload_n 0, 1) := by decide +kernel
theorem d_Mo_offline_61 : decode b_Mo_offline 61 = .ok (.getfield 89, 3) := by decide +kernel
theorem d_Mo_offline_64 : decode b_Mo_offline 64 = .ok (.ifCond .eq 8, 3) := by decide +kernel
theorem d_Mo_offline_67 : decode b_Mo_offline 67 = .ok (.bipush (-2), 2) := by decide +kernel
theorem d_Mo_offline_69 : decode b_Mo_offline 69 = .ok (.goto 5, 3) := by decide +kernel
theorem d_Mo_offline_72 : decode b_Mo_offline 72 = .ok (.bipush (-4), 2) := by decide +kernel
theorem d_Mo_offline_74 : decode b_Mo_offline 74 = .ok (.ireturn, 1) := by decide +kernel
theorem d_Mo_offline_75 : decode b_Mo_offline 75 = .ok (.aload_n 0, 1) := by decide +kernel
theorem d_Mo_offline_76 : decode b_Mo_offline 76 = .ok (.getfield 46, 3) := by decide +kernel
theorem d_Mo_offline_79 : decode b_Mo_offline 79 = .ok (.bipush 100, 2) := by decide +kernel
theorem d_Mo_offline_81 : decode b_Mo_offline 81 = .ok (.iload_n 1, 1) := by decide +kernel
theorem d_Mo_offline_82 : decode b_Mo_offline 82 = .ok (.imul, 1) := by decide +kernel
theorem d_Mo_offline_83 : decode b_Mo_offline 83 = .ok (.iload_n 3, 1) := by decide +kernel
theorem d_Mo_offline_84 : decode b_Mo_offline 84 = .ok (.iadd, 1) := by decide +kernel
theorem d_Mo_offline_85 : decode b_Mo_offline 85 = .ok (.iaload, 1) := by decide +kernel
theorem d_Mo_offline_86 : decode b_Mo_offline 86 = .ok (.ifCond .le 6, 3) := by decide +kernel
theorem d_Mo_offline_89 : decode b_Mo_offline 89 = .ok (.bipush (-5), 2) := by decide +kernel
theorem d_Mo_offline_91 : decode b_Mo_offline 91 = .ok (.ireturn, 1) := by decide +kernel
theorem d_Mo_offline_92 : decode b_Mo_offline 92 = .ok (.bipush 8, 2) := by decide +kernel
theorem d_Mo_offline_94 : decode b_Mo_offline 94 = .ok (.iload_n 1, 1) := by decide +kernel
theorem d_Mo_offline_95 : decode b_Mo_offline 95 = .ok (.imul, 1) := by decide +kernel
theorem d_Mo_offline_96 : decode b_Mo_offline 96 = .ok (.iload_n 2, 1) := by decide +kernel
theorem d_Mo_offline_97 : decode b_Mo_offline 97 = .ok (.iadd, 1) := by decide +kernel
theorem d_Mo_offline_98 : decode b_Mo_offline 98 = .ok (.istore 4, 2) := by decide +kernel
theorem d_Mo_offline_100 : decode b_Mo_offline 100 = .ok (.aload_n 0, 1) := by decide +kernel
theorem d_Mo_offline_101 : decode b_Mo_offline 101 = .ok (.getfield 61, 3) := by decide +kernel
theorem d_Mo_offline_104 : decode b_Mo_offline 104 = .ok (.iload 4, 2) := by decide +kernel
theorem d_Mo_offline_106 : decode b_Mo_offline 106 = .ok (.iaload, 1) := by decide +kernel
theorem d_Mo_offline_107 : decode b_Mo_offline 107 = .ok (.ifCond .lt 17, 3) := by decide +kernel
theorem d_Mo_offline_110 : decode b_Mo_offline 110 = .ok (.aload_n 0, 1) := by decide +kernel
theorem d_Mo_offline_111 : decode b_Mo_offline 111 = .ok (.getfield 64, 3) := by decide +kernel
theorem d_Mo_offline_114 : decode b_Mo_offline 114 = .ok (.iload 4, 2) := by decide +kernel
theorem d_Mo_offline_116 : decode b_Mo_offline 116 = .ok (.iaload, 1) := by decide +kernel
theorem d_Mo_offline_117 : decode b_Mo_offline 117 = .ok (.aload_n 0, 1) := by decide +kernel
theorem d_Mo_offline_118 : decode b_Mo_offline 118 = .ok (.getfield 106, 3) := by decide +kernel
theorem d_Mo_offline_121 : decode b_Mo_offline 121 = .ok (.if_icmp .ne 6, 3) := by decide +kernel
theorem d_Mo_offline_124 : decode b_Mo_offline 124 = .ok (.bipush (-7), 2) := by decide +kernel
theorem d_Mo_offline_126 : decode b_Mo_offline 126 = .ok (.ireturn, 1) := by decide +kernel
theorem d_Mo_offline_127 : decode b_Mo_offline 127 = .ok (.aload_n 0, 1) := by decide +kernel
theorem d_Mo_offline_128 : decode b_Mo_offline 128 = .ok (.invokevirtual 102, 3) := by decide +kernel
theorem d_Mo_offline_131 : decode b_Mo_offline 131 = .ok (.ifCond .ne 6, 3) := by decide +kernel
theorem d_Mo_offline_134 : decode b_Mo_offline 134 = .ok (.bipush (-2), 2) := by decide +kernel
theorem d_Mo_offline_136 : decode b_Mo_offline 136 = .ok (.ireturn, 1) := by decide +kernel
theorem d_Mo_offline_137 : decode b_Mo_offline 137 = .ok (.aload_n 0, 1) := by decide +kernel
theorem d_Mo_offline_138 : decode b_Mo_offline 138 = .ok (.getfield 64, 3) := by decide +kernel
theorem d_Mo_offline_141 : decode b_Mo_offline 141 = .ok (.iload 4, 2) := by decide +kernel
theorem d_Mo_offline_143 : decode b_Mo_offline 143 = .ok (.iaload, 1) := by decide +kernel
theorem d_Mo_offline_144 : decode b_Mo_offline 144 = .ok (.istore 5, 2) := by decide +kernel
theorem d_Mo_offline_146 : decode b_Mo_offline 146 = .ok (.aload_n 0, 1) := by decide +kernel
theorem d_Mo_offline_147 : decode b_Mo_offline 147 = .ok (.getfield 64, 3) := by decide +kernel
theorem d_Mo_offline_150 : decode b_Mo_offline 150 = .ok (.iload 4, 2) := by decide +kernel
theorem d_Mo_offline_152 : decode b_Mo_offline 152 = .ok (.dup2, 1) := by decide +kernel
theorem d_Mo_offline_153 : decode b_Mo_offline 153 = .ok (.iaload, 1) := by decide +kernel
theorem d_Mo_offline_154 : decode b_Mo_offline 154 = .ok (.iconst 1, 1) := by decide +kernel
theorem d_Mo_offline_155 : decode b_Mo_offline 155 = .ok (.iadd, 1) := by decide +kernel
theorem d_Mo_offline_156 : decode b_Mo_offline 156 = .ok (.iastore, 1) := by decide +kernel
theorem d_Mo_offline_157 : decode b_Mo_offline 157 = .ok (.aload_n 0, 1) := by decide +kernel
theorem d_Mo_offline_158 : decode b_Mo_offline 158 = .ok (.iload_n 1, 1) := by decide +kernel
theorem d_Mo_offline_159 : decode b_Mo_offline 159 = .ok (.iload_n 2, 1) := by decide +kernel
theorem d_Mo_offline_160 : decode b_Mo_offline 160 = .ok (.iload_n 3, 1) := by decide +kernel
theorem d_Mo_offline_161 : decode b_Mo_offline 161 = .ok (.aload_n 0, 1) := by decide +kernel
theorem d_Mo_offline_162 : decode b_Mo_offline 162 = .ok (.getfield 17, 3) := by decide +kernel
theorem d_Mo_offline_165 : decode b_Mo_offline 165 = .ok (.bipush 24, 2) := by decide +kernel
theorem d_Mo_offline_167 : decode b_Mo_offline 167 = .ok (.aload_n 0, 1) := by decide +kernel
theorem d_Mo_offline_168 : decode b_Mo_offline 168 = .ok (.getfield 61, 3) := by decide +kernel
theorem d_Mo_offline_171 : decode b_Mo_offline 171 = .ok (.iload 4, 2) := by decide +kernel
theorem d_Mo_offline_173 : decode b_Mo_offline 173 = .ok (.iaload, 1) := by decide +kernel
theorem d_Mo_offline_174 : decode b_Mo_offline 174 = .ok (.imul, 1) := by decide +kernel
theorem d_Mo_offline_175 : decode b_Mo_offline 175 = .ok (.iload 5, 2) := by decide +kernel
theorem d_Mo_offline_177 : decode b_Mo_offline 177 = .ok (.iadd, 1) := by decide +kernel
theorem d_Mo_offline_178 : decode b_Mo_offline 178 = .ok (.baload, 1) := by decide +kernel
theorem d_Mo_offline_179 : decode b_Mo_offline 179 = .ok (.aload_n 0, 1) := by decide +kernel
theorem d_Mo_offline_180 : decode b_Mo_offline 180 = .ok (.getfield 67, 3) := by decide +kernel
theorem d_Mo_offline_183 : decode b_Mo_offline 183 = .ok (.bipush 24, 2) := by decide +kernel
theorem d_Mo_offline_185 : decode b_Mo_offline 185 = .ok (.iload 4, 2) := by decide +kernel
theorem d_Mo_offline_187 : decode b_Mo_offline 187 = .ok (.imul, 1) := by decide +kernel
theorem d_Mo_offline_188 : decode b_Mo_offline 188 = .ok (.iload 5, 2) := by decide +kernel
theorem d_Mo_offline_190 : decode b_Mo_offline 190 = .ok (.iadd, 1) := by decide +kernel
theorem d_Mo_offline_191 : decode b_Mo_offline 191 = .ok (.iaload, 1) := by decide +kernel
theorem d_Mo_offline_192 : decode b_Mo_offline 192 = .ok (.iconst 0, 1) := by decide +kernel
theorem d_Mo_offline_193 : decode b_Mo_offline 193 = .ok (.invokevirtual 149, 3) := by decide +kernel
theorem d_Mo_offline_196 : decode b_Mo_offline 196 = .ok (.aload_n 0, 1) := by decide +kernel
theorem d_Mo_offline_197 : decode b_Mo_offline 197 = .ok (.getfield 67, 3) := by decide +kernel
theorem d_Mo_offline_200 : decode b_Mo_offline 200 = .ok (.bipush 24, 2) := by decide +kernel
theorem d_Mo_offline_202 : decode b_Mo_offline 202 = .ok (.iload 4, 2) := by decide +kernel
theorem d_Mo_offline_204 : decode b_Mo_offline 204 = .ok (.imul, 1) := by decide +kernel
theorem d_Mo_offline_205 : decode b_Mo_offline 205 = .ok (.iload 5, 2) := by decide +kernel
theorem d_Mo_offline_207 : decode b_Mo_offline 207 = .ok (.iadd, 1) := by decide +kernel
theorem d_Mo_offline_208 : decode b_Mo_offline 208 = .ok (.iaload, 1) := by decide +kernel
theorem d_Mo_offline_209 : decode b_Mo_offline 209 = .ok (.ireturn, 1) := by decide +kernel
theorem d_Mo_report_0 : decode b_Mo_report 0 = .ok (.aload_n 0, 1) := by decide +kernel
theorem d_Mo_report_1 : decode b_Mo_report 1 = .ok (.aload_n 0, 1) := by decide +kernel
theorem d_Mo_report_2 : decode b_Mo_report 2 = .ok (.iload_n 1, 1) := by decide +kernel
theorem d_Mo_report_3 : decode b_Mo_report 3 = .ok (.invokevirtual 78, 3) := by decide +kernel
theorem d_Mo_report_6 : decode b_Mo_report 6 = .ok (.ifCond .ne 7, 3) := by decide +kernel
theorem d_Mo_report_9 : decode b_Mo_report 9 = .ok (.iconst 1, 1) := by decide +kernel
theorem d_Mo_report_10 : decode b_Mo_report 10 = .ok (.goto 4, 3) := by decide +kernel
theorem d_Mo_report_13 : decode b_Mo_report 13 = .ok (.iconst 0, 1) := by decide +kernel
theorem d_Mo_report_14 : decode b_Mo_report 14 = .ok (.iconst 0, 1) := by decide +kernel
theorem d_Mo_report_15 : decode b_Mo_report 15 = .ok (.iconst 0, 1) := by decide +kernel
theorem d_Mo_report_16 : decode b_Mo_report 16 = .ok (.invokevirtual 98, 3) := by decide +kernel
theorem d_Mo_report_19 : decode b_Mo_report 19 = .ok (.ifCond .eq 5, 3) := by decide +kernel
theorem d_Mo_report_22 : decode b_Mo_report 22 = .ok (.iconst 0, 1) := by decide +kernel
theorem d_Mo_report_23 : decode b_Mo_report 23 = .ok (.ireturn, 1) := by decide +kernel
theorem d_Mo_report_24 : decode b_Mo_report 24 = .ok (.aload_n 0, 1) := by decide +kernel
theorem d_Mo_report_25 : decode b_Mo_report 25 = .ok (.getfield 89, 3) := by decide +kernel
theorem d_Mo_report_28 : decode b_Mo_report 28 = .ok (.ifCond .ne 13, 3) := by decide +kernel
theorem d_Mo_report_31 : decode b_Mo_report 31 = .ok (.aload_n 0, 1) := by decide +kernel
theorem d_Mo_report_32 : decode b_Mo_report 32 = .ok (.getfield 34, 3) := by decide +kernel
theorem d_Mo_report_35 : decode b_Mo_report 35 = .ok (.iload_n 1, 1) := by decide +kernel
theorem d_Mo_report_36 : decode b_Mo_report 36 = .ok (.iaload, 1) := by decide +kernel
theorem d_Mo_report_37 : decode b_Mo_report 37 = .ok (.iconst 2, 1) := by decide +kernel
theorem d_Mo_report_38 : decode b_Mo_report 38 = .ok (.if_icmp .ne 18, 3) := by decide +kernel
theorem d_Mo_report_41 : decode b_Mo_report 41 = .ok (.aload_n 0, 1) := by decide +kernel
theorem d_Mo_report_42 : decode b_Mo_report 42 = .ok (.getfield 89, 3) := by decide +kernel
theorem d_Mo_report_45 : decode b_Mo_report 45 = .ok (.ifCond .eq 8, 3) := by decide +kernel
theorem d_Mo_report_48 : decode b_Mo_report 48 = .ok (.bipush (-2), 2) := by decide +kernel
theorem d_Mo_report_50 : decode b_Mo_report 50 = .ok (.goto 5, 3) := by decide +kernel
theorem d_Mo_report_53 : decode b_Mo_report 53 = .ok (.bipush (-4), 2) := by decide +kernel
theorem d_Mo_report_55 : decode b_Mo_report 55 = .ok (.ireturn, 1) := by decide +kernel
theorem d_Mo_report_56 : decode b_Mo_report 56 = .ok (.aload_n 0, 1) := by decide +kernel
theorem d_Mo_report_57 : decode b_Mo_report 57 = .ok (.invokevirtual 102, 3) := by decide +kernel
theorem d_Mo_report_60 : decode b_Mo_report 60 = .ok (.ifCond .ne 6, 3) := by decide +kernel
theorem d_Mo_report_63 : decode b_Mo_report 63 = .ok (.bipush (-2), 2) := by decide +kernel
theorem d_Mo_report_65 : decode b_Mo_report 65 = .ok (.ireturn, 1) := by decide +kernel
theorem d_Mo_report_66 : decode b_Mo_report 66 = .ok (.iconst 0, 1) := by decide +kernel
theorem d_Mo_report_67 : decode b_Mo_report 67 = .ok (.istore_n 2, 1) := by decide +kernel
theorem d_Mo_report_68 : decode b_Mo_report 68 = .ok (.bipush 100, 2) := by decide +kernel
theorem d_Mo_report_70 : decode b_Mo_report 70 = .ok (.iload_n 1, 1) := by decide +kernel
theorem d_Mo_report_71 : decode b_Mo_report 71 = .ok (.imul, 1) := by decide +kernel
theorem d_Mo_report_72 : decode b_Mo_report 72 = .ok (.istore_n 3, 1) := by decide +kernel
theorem d_Mo_report_73 : decode b_Mo_report 73 = .ok (.iload_n 3, 1) := by decide +kernel
theorem d_Mo_report_74 : decode b_Mo_report 74 = .ok (.bipush 100, 2) := by decide +kernel
theorem d_Mo_report_76 : decode b_Mo_report 76 = .ok (.iload_n 1, 1) := by decide +kernel
theorem d_Mo_report_77 : decode b_Mo_report 77 = .ok (.imul, 1) := by decide +kernel
theorem d_Mo_report_78 : decode b_Mo_report 78 = .ok (.bipush 100, 2) := by decide +kernel
theorem d_Mo_report_80 : decode b_Mo_report 80 = .ok (.iadd, 1) := by decide +kernel
theorem d_Mo_report_81 : decode b_Mo_report 81 = .ok (.if_icmp .ge 29, 3) := by decide +kernel
theorem d_Mo_report_84 : decode b_Mo_report 84 = .ok (.aload_n 0, 1) := by decide +kernel
theorem d_Mo_report_85 : decode b_Mo_report 85 = .ok (.getfield 46, 3) := by decide +kernel
theorem d_Mo_report_88 : decode b_Mo_report 88 = .ok (.iload_n 3, 1) := by decide +kernel
theorem d_Mo_report_89 : decode b_Mo_report 89 = .ok (.iaload, 1) := by decide +kernel
theorem d_Mo_report_90 : decode b_Mo_report 90 = .ok (.iconst 2, 1) := by decide +kernel
theorem d_Mo_report_91 : decode b_Mo_report 91 = .ok (.if_icmp .ne 13, 3) := by decide +kernel
theorem d_Mo_report_94 : decode b_Mo_report 94 = .ok (.aload_n 0, 1) := by decide +kernel
theorem d_Mo_report_95 : decode b_Mo_report 95 = .ok (.getfield 46, 3) := by decide +kernel
theorem d_Mo_report_98 : decode b_Mo_report 98 = .ok (.iload_n 3, 1) := by decide +kernel
theorem d_Mo_report_99 : decode b_Mo_report 99 = .ok (.iconst 1, 1) := by decide +kernel
theorem d_Mo_report_100 : decode b_Mo_report 100 = .ok (.iastore, 1) := by decide +kernel
theorem d_Mo_report_101 : decode b_Mo_report 101 = .ok (.iinc 2 1, 3) := by decide +kernel
theorem d_Mo_report_104 : decode b_Mo_report 104 = .ok (.iinc 3 1, 3) := by decide +kernel
theorem d_Mo_report_107 : decode b_Mo_report 107 = .ok (.goto (-34), 3) := by decide +kernel
theorem d_Mo_report_110 : decode b_Mo_report 110 = .ok (.bipush 8, 2) := by decide +kernel
theorem d_Mo_report_112 : decode b_Mo_report 112 = .ok (.iload_n 1, 1) := by decide +kernel
theorem d_Mo_report_113 : decode b_Mo_report 113 = .ok (.imul, 1) := by decide +kernel
theorem d_Mo_report_114 : decode b_Mo_report 114 = .ok (.istore_n 3, 1) := by decide +kernel
theorem d_Mo_report_115 : decode b_Mo_report 115 = .ok (.iload_n 3, 1) := by decide +kernel
theorem d_Mo_report_116 : decode b_Mo_report 116 = .ok (.bipush 8, 2) := by decide +kernel
theorem d_Mo_report_118 : decode b_Mo_report 118 = .ok (.iload_n 1, 1) := by decide +kernel
theorem d_Mo_report_119 : decode b_Mo_report 119 = .ok (.imul, 1) := by decide +kernel
theorem d_Mo_report_120 : decode b_Mo_report 120 = .ok (.bipush 8, 2) := by decide +kernel
theorem d_Mo_report_122 : decode b_Mo_report 122 = .ok (.iadd, 1) := by decide +kernel
theorem d_Mo_report_123 : decode b_Mo_report 123 = .ok (.if_icmp .ge 66, 3) := by decide +kernel
theorem d_Mo_report_126 : decode b_Mo_report 126 = .ok (.aload_n 0, 1) := by decide +kernel
theorem d_Mo_report_127 : decode b_Mo_report 127 = .ok (.getfield 64, 3) := by decide +kernel
theorem d_Mo_report_130 : decode b_Mo_report 130 = .ok (.iload_n 3, 1) := by decide +kernel
theorem d_Mo_report_131 : decode b_Mo_report 131 = .ok (.iaload, 1) := by decide +kernel
theorem d_Mo_report_132 : decode b_Mo_report 132 = .ok (.istore 4, 2) := by decide +kernel
theorem d_Mo_report_134 : decode b_Mo_report 134 = .ok (.iload 4, 2) := by decide +kernel
theorem d_Mo_report_136 : decode b_Mo_report 136 = .ok (.aload_n 0, 1) := by decide +kernel
theorem d_Mo_report_137 : decode b_Mo_report 137 = .ok (.getfield 106, 3) := by decide +kernel
theorem d_Mo_report_140 : decode b_Mo_report 140 = .ok (.if_icmp .ge 36, 3) := by decide +kernel
theorem d_Mo_report_143 : decode b_Mo_report 143 = .ok (.aload_n 0, 1) := by decide +kernel
theorem d_Mo_report_144 : decode b_Mo_report 144 = .ok (.getfield 61, 3) := by decide +kernel
theorem d_Mo_report_147 : decode b_Mo_report 147 = .ok (.iload_n 3, 1) := by decide +kernel
theorem d_Mo_report_148 : decode b_Mo_report 148 = .ok (.iaload, 1) := by decide +kernel
theorem d_Mo_report_149 : decode b_Mo_report 149 = .ok (.ifCond .lt 27, 3) := by decide +kernel
theorem d_Mo_report_152 : decode b_Mo_report 152 = .ok (.aload_n 0, 1) := by decide +kernel
theorem d_Mo_report_153 : decode b_Mo_report 153 = .ok (.getfield 43, 3) := by decide +kernel
theorem d_Mo_report_156 : decode b_Mo_report 156 = .ok (.aload_n 0, 1) := by decide +kernel
theorem d_Mo_report_157 : decode b_Mo_report 157 = .ok (.getfield 67, 3) := by decide +kernel
theorem d_Mo_report_160 : decode b_Mo_report 160 = .ok (.bipush 24, 2) := by decide +kernel
theorem d_Mo_report_162 : decode b_Mo_report 162 = .ok (.iload_n 3, 1) := by decide +kernel
theorem d_Mo_report_163 : decode b_Mo_report 163 = .ok (.imul, 1) := by decide +kernel
theorem d_Mo_report_164 : decode b_Mo_report 164 = .ok (.iload 4, 2) := by decide +kernel
theorem d_Mo_report_166 : decode b_Mo_report 166 = .ok (.iadd, 1) := by decide +kernel
theorem d_Mo_report_167 : decode b_Mo_report 167 = .ok (.iaload, 1) := by decide +kernel
theorem d_Mo_report_168 : decode b_Mo_report 168 = .ok (.iconst 0, 1) := by decide +kernel
theorem d_Mo_report_169 : decode b_Mo_report 169 = .ok (.iastore, 1) := by decide +kernel
theorem d_Mo_report_170 : decode b_Mo_report 170 = .ok (.iinc 4 1, 3) := by decide +kernel
theorem d_Mo_report_173 : decode b_Mo_report 173 = .ok (.goto (-39), 3) := by decide +kernel
theorem d_Mo_report_176 : decode b_Mo_report 176 = .ok (.aload_n 0, 1) := by decide +kernel
theorem d_Mo_report_177 : decode b_Mo_report 177 = .ok (.getfield 61, 3) := by decide +kernel
theorem d_Mo_report_180 : decode b_Mo_report 180 = .ok (.iload_n 3, 1) := by decide +kernel
theorem d_Mo_report_181 : decode b_Mo_report 181 = .ok (.iconst (-1), 1) := by decide +kernel
theorem d_Mo_report_182 : decode b_Mo_report 182 = .ok (.iastore, 1) := by decide +kernel
theorem d_Mo_report_183 : decode b_Mo_report 183 = .ok (.iinc 3 1, 3) := by decide +kernel
theorem d_Mo_report_186 : decode b_Mo_report 186 = .ok (.goto (-71), 3) := by decide +kernel
theorem d_Mo_report_189 : decode b_Mo_report 189 = .ok (.iload_n 2, 1) := by decide +kernel
theorem d_Mo_report_190 : decode b_Mo_report 190 = .ok (.ireturn, 1) := by decide +kernel
theorem d_Mo_close_0 : decode b_Mo_close 0 = .ok (.aload_n 0, 1) := by decide +kernel
theorem d_Mo_close_1 : decode b_Mo_close 1 = .ok (.aload_n 0, 1) := by decide +kernel
theorem d_Mo_close_2 : decode b_Mo_close 2 = .ok (.iload_n 1, 1) := by decide +kernel
theorem d_Mo_close_3 : decode b_Mo_close 3 = .ok (.invokevirtual 78, 3) := by decide +kernel
theorem d_Mo_close_6 : decode b_Mo_close 6 = .ok (.ifCond .ne 7, 3) := by decide +kernel
theorem d_Mo_close_9 : decode b_Mo_close 9 = .ok (.iconst 1, 1) := by decide +kernel
theorem d_Mo_close_10 : decode b_Mo_close 10 = .ok (.goto 4, 3) := by decide +kernel
theorem d_Mo_close_13 : decode b_Mo_close 13 = .ok (.iconst 0, 1) := by decide +kernel
theorem d_Mo_close_14 : decode b_Mo_close 14 = .ok (.iconst 0, 1) := by decide +kernel
theorem d_Mo_close_15 : decode b_Mo_close 15 = .ok (.iconst 0, 1) := by decide +kernel
theorem d_Mo_close_16 : decode b_Mo_close 16 = .ok (.invokevirtual 98, 3) := by decide +kernel
theorem d_Mo_close_19 : decode b_Mo_close 19 = .ok (.ifCond .eq 5, 3) := by decide +kernel
theorem d_Mo_close_22 : decode b_Mo_close 22 = .ok (.iconst 0, 1) := by decide +kernel
theorem d_Mo_close_23 : decode b_Mo_close 23 = .ok (.ireturn, 1) := by decide +kernel
theorem d_Mo_close_24 : decode b_Mo_close 24 = .ok (.aload_n 0, 1) := by decide +kernel
theorem d_Mo_close_25 : decode b_Mo_close 25 = .ok (.getfield 89, 3) := by decide +kernel
theorem d_Mo_close_28 : decode b_Mo_close 28 = .ok (.ifCond .ne 13, 3) := by decide +kernel
theorem d_Mo_close_31 : decode b_Mo_close 31 = .ok (.aload_n 0, 1) := by decide +kernel
theorem d_Mo_close_32 : decode b_Mo_close 32 = .ok (.getfield 34, 3) := by decide +kernel
theorem d_Mo_close_35 : decode b_Mo_close 35 = .ok (.iload_n 1, 1) := by decide +kernel
theorem d_Mo_close_36 : decode b_Mo_close 36 = .ok (.iaload, 1) := by decide +kernel
theorem d_Mo_close_37 : decode b_Mo_close 37 = .ok (.iconst 2, 1) := by decide +kernel
theorem d_Mo_close_38 : decode b_Mo_close 38 = .ok (.if_icmp .ne 18, 3) := by decide +kernel
theorem d_Mo_close_41 : decode b_Mo_close 41 = .ok (.aload_n 0, 1) := by decide +kernel
theorem d_Mo_close_42 : decode b_Mo_close 42 = .ok (.getfield 89, 3) := by decide +kernel
theorem d_Mo_close_45 : decode b_Mo_close 45 = .ok (.ifCond .eq 8, 3) := by decide +kernel
theorem d_Mo_close_48 : decode b_Mo_close 48 = .ok (.bipush (-2), 2) := by decide +kernel
theorem d_Mo_close_50 : decode b_Mo_close 50 = .ok (.goto 5, 3) := by decide +kernel
theorem d_Mo_close_53 : decode b_Mo_close 53 = .ok (.bipush (-4), 2) := by decide +kernel
theorem d_Mo_close_55 : decode b_Mo_close 55 = .ok (.ireturn, 1) := by decide +kernel
theorem d_Mo_close_56 : decode b_Mo_close 56 = .ok (.aload_n 0, 1) := by decide +kernel
theorem d_Mo_close_57 : decode b_Mo_close 57 = .ok (.invokevirtual 102, 3) := by decide +kernel
theorem d_Mo_close_60 : decode b_Mo_close 60 = .ok (.ifCond .ne 6, 3) := by decide +kernel
theorem d_Mo_close_63 : decode b_Mo_close 63 = .ok (.bipush (-2), 2) := by decide +kernel
theorem d_Mo_close_65 : decode b_Mo_close 65 = .ok (.ireturn, 1) := by decide +kernel
theorem d_Mo_close_66 : decode b_Mo_close 66 = .ok (.iconst 0, 1) := by decide +kernel
theorem d_Mo_close_67 : decode b_Mo_close 67 = .ok (.istore_n 2, 1) := by decide +kernel
theorem d_Mo_close_68 : decode b_Mo_close 68 = .ok (.bipush 8, 2) := by decide +kernel
theorem d_Mo_close_70 : decode b_Mo_close 70 = .ok (.iload_n 1, 1) := by decide +kernel
theorem d_Mo_close_71 : decode b_Mo_close 71 = .ok (.imul, 1) := by decide +kernel
theorem d_Mo_close_72 : decode b_Mo_close 72 = .ok (.istore_n 3, 1) := by decide +kernel
theorem d_Mo_close_73 : decode b_Mo_close 73 = .ok (.iload_n 3, 1) := by decide +kernel
theorem d_Mo_close_74 : decode b_Mo_close 74 = .ok (.bipush 8, 2) := by decide +kernel
theorem d_Mo_close_76 : decode b_Mo_close 76 = .ok (.iload_n 1, 1) := by decide +kernel
theorem d_Mo_close_77 : decode b_Mo_close 77 = .ok (.imul, 1) := by decide +kernel
theorem d_Mo_close_78 : decode b_Mo_close 78 = .ok (.bipush 8, 2) := by decide +kernel
theorem d_Mo_close_80 : decode b_Mo_close 80 = .ok (.iadd, 1) := by decide +kernel
theorem d_Mo_close_81 : decode b_Mo_close 81 = .ok (.if_icmp .ge 43, 3) := by decide +kernel
theorem d_Mo_close_84 : decode b_Mo_close 84 = .ok (.aload_n 0, 1) := by decide +kernel
theorem d_Mo_close_85 : decode b_Mo_close 85 = .ok (.getfield 61, 3) := by decide +kernel
theorem d_Mo_close_88 : decode b_Mo_close 88 = .ok (.iload_n 3, 1) := by decide +kernel
theorem d_Mo_close_89 : decode b_Mo_close 89 = .ok (.iaload, 1) := by decide +kernel
theorem d_Mo_close_90 : decode b_Mo_close 90 = .ok (.ifCond .lt 19, 3) := by decide +kernel
theorem d_Mo_close_93 : decode b_Mo_close 93 = .ok (.iload_n 2, 1) := by decide +kernel
theorem d_Mo_close_94 : decode b_Mo_close 94 = .ok (.aload_n 0, 1) := by decide +kernel
theorem d_Mo_close_95 : decode b_Mo_close 95 = .ok (.getfield 106, 3) := by decide +kernel
theorem d_Mo_close_98 : decode b_Mo_close 98 = .ok (.iadd, 1) := by decide +kernel
theorem d_Mo_close_99 : decode b_Mo_close 99 = .ok (.aload_n 0, 1) := by decide +kernel
theorem d_Mo_close_100 : decode b_Mo_close 100 = .ok (.getfield 64, 3) := by decide +kernel
theorem d_Mo_close_103 : decode b_Mo_close 103 = .ok (.iload_n 3, 1) := by decide +kernel
theorem d_Mo_close_104 : decode b_Mo_close 104 = .ok (.iaload, 1) := by decide +kernel
theorem d_Mo_close_105 : decode b_Mo_close 105 = .ok (.isub, 1) := by decide +kernel
theorem d_Mo_close_106 : decode b_Mo_close 106 = .ok (.goto 4, 3) := by decide +kernel
theorem d_Mo_close_109 : decode b_Mo_close 109 = .ok (.iload_n 2, 1) := by decide +kernel
theorem d_Mo_close_110 : decode b_Mo_close 110 = .ok (.istore_n 2, 1) := by decide +kernel
theorem d_Mo_close_111 : decode b_Mo_close 111 = .ok (.aload_n 0, 1) := by decide +kernel
theorem d_Mo_close_112 : decode b_Mo_close 112 = .ok (.getfield 61, 3) := by decide +kernel
theorem d_Mo_close_115 : decode b_Mo_close 115 = .ok (.iload_n 3, 1) := by decide +kernel
theorem d_Mo_close_116 : decode b_Mo_close 116 = .ok (.iconst (-1), 1) := by decide +kernel
theorem d_Mo_close_117 : decode b_Mo_close 117 = .ok (.iastore, 1) := by decide +kernel
theorem d_Mo_close_118 : decode b_Mo_close 118 = .ok (.iinc 3 1, 3) := by decide +kernel
theorem d_Mo_close_121 : decode b_Mo_close 121 = .ok (.goto (-48), 3) := by decide +kernel
theorem d_Mo_close_124 : decode b_Mo_close 124 = .ok (.bipush 100, 2) := by decide +kernel
theorem d_Mo_close_126 : decode b_Mo_close 126 = .ok (.iload_n 1, 1) := by decide +kernel
theorem d_Mo_close_127 : decode b_Mo_close 127 = .ok (.imul, 1) := by decide +kernel
theorem d_Mo_close_128 : decode b_Mo_close 128 = .ok (.istore_n 3, 1) := by decide +kernel
theorem d_Mo_close_129 : decode b_Mo_close 129 = .ok (.iload_n 3, 1) := by decide +kernel
theorem d_Mo_close_130 : decode b_Mo_close 130 = .ok (.bipush 100, 2) := by decide +kernel
theorem d_Mo_close_132 : decode b_Mo_close 132 = .ok (.iload_n 1, 1) := by decide +kernel
theorem d_Mo_close_133 : decode b_Mo_close 133 = .ok (.imul, 1) := by decide +kernel
theorem d_Mo_close_134 : decode b_Mo_close 134 = .ok (.bipush 100, 2) := by decide +kernel
theorem d_Mo_close_136 : decode b_Mo_close 136 = .ok (.iadd, 1) := by decide +kernel
theorem d_Mo_close_137 : decode b_Mo_close 137 = .ok (.if_icmp .ge 35, 3) := by decide +kernel
theorem d_Mo_close_140 : decode b_Mo_close 140 = .ok (.aload_n 0, 1) := by decide +kernel
theorem d_Mo_close_141 : decode b_Mo_close 141 = .ok (.getfield 46, 3) := by decide +kernel
theorem d_Mo_close_144 : decode b_Mo_close 144 = .ok (.iload_n 3, 1) := by decide +kernel
theorem d_Mo_close_145 : decode b_Mo_close 145 = .ok (.aload_n 0, 1) := by decide +kernel
theorem d_Mo_close_146 : decode b_Mo_close 146 = .ok (.getfield 46, 3) := by decide +kernel
theorem d_Mo_close_149 : decode b_Mo_close 149 = .ok (.iload_n 3, 1) := by decide +kernel
theorem d_Mo_close_150 : decode b_Mo_close 150 = .ok (.iaload, 1) := by decide +kernel
theorem d_Mo_close_151 : decode b_Mo_close 151 = .ok (.iconst 2, 1) := by decide +kernel
theorem d_Mo_close_152 : decode b_Mo_close 152 = .ok (.if_icmp .ne 7, 3) := by decide +kernel
theorem d_Mo_close_155 : decode b_Mo_close 155 = .ok (.iconst 3, 1) := by decide +kernel
theorem d_Mo_close_156 : decode b_Mo_close 156 = .ok (.goto 9, 3) := by decide +kernel
theorem d_Mo_close_159 : decode b_Mo_close 159 = .ok (.aload_n 0, 1) := by decide +kernel
theorem d_Mo_close_160 : decode b_Mo_close 160 = .ok (.getfield 46, 3) := by decide +kernel
theorem d_Mo_close_163 : decode b_Mo_close 163 = .ok (.iload_n 3, 1) := by decide +kernel
theorem d_Mo_close_164 : decode b_Mo_close 164 = .ok (.iaload, 1) := by decide +kernel
theorem d_Mo_close_165 : decode b_Mo_close 165 = .ok (.iastore, 1) := by decide +kernel
theorem d_Mo_close_166 : decode b_Mo_close 166 = .ok (.iinc 3 1, 3) := by decide +kernel
theorem d_Mo_close_169 : decode b_Mo_close 169 = .ok (.goto (-40), 3) := by decide +kernel
theorem d_Mo_close_172 : decode b_Mo_close 172 = .ok (.aload_n 0, 1) := by decide +kernel
theorem d_Mo_close_173 : decode b_Mo_close 173 = .ok (.getfield 34, 3) := by decide +kernel
theorem d_Mo_close_176 : decode b_Mo_close 176 = .ok (.iload_n 1, 1) := by decide +kernel
theorem d_Mo_close_177 : decode b_Mo_close 177 = .ok (.iconst 2, 1) := by decide +kernel
theorem d_Mo_close_178 : decode b_Mo_close 178 = .ok (.iastore, 1) := by decide +kernel
theorem d_Mo_close_179 : decode b_Mo_close 179 = .ok (.iload_n 2, 1) := by decide +kernel
theorem d_Mo_close_180 : decode b_Mo_close 180 = .ok (.ireturn, 1) := by decide +kernel
theorem d_Mo_isHolder_0 : decode b_Mo_isHolder 0 = .ok (.iload_n 0, 1) := by decide +kernel
theorem d_Mo_isHolder_1 : decode b_Mo_isHolder 1 = .ok (.iconst 0, 1) := by decide +kernel
theorem d_Mo_isHolder_2 : decode b_Mo_isHolder 2 = .ok (.iconst 4, 1) := by decide +kernel
theorem d_Mo_isHolder_3 : decode b_Mo_isHolder 3 = .ok (.invokestatic 74, 3) := by decide +kernel
theorem d_Mo_isHolder_6 : decode b_Mo_isHolder 6 = .ok (.ireturn, 1) := by decide +kernel
theorem d_Mo_keysOf_0 : decode b_Mo_keysOf 0 = .ok (.iconst 0, 1) := by decide +kernel
theorem d_Mo_keysOf_1 : decode b_Mo_keysOf 1 = .ok (.istore_n 2, 1) := by decide +kernel
theorem d_Mo_keysOf_2 : decode b_Mo_keysOf 2 = .ok (.iconst 0, 1) := by decide +kernel
theorem d_Mo_keysOf_3 : decode b_Mo_keysOf 3 = .ok (.istore_n 3, 1) := by decide +kernel
theorem d_Mo_keysOf_4 : decode b_Mo_keysOf 4 = .ok (.iload_n 3, 1) := by decide +kernel
theorem d_Mo_keysOf_5 : decode b_Mo_keysOf 5 = .ok (.iconst 5, 1) := by decide +kernel
theorem d_Mo_keysOf_6 : decode b_Mo_keysOf 6 = .ok (.if_icmp .ge 22, 3) := by decide +kernel
theorem d_Mo_keysOf_9 : decode b_Mo_keysOf 9 = .ok (.iload_n 2, 1) := by decide +kernel
theorem d_Mo_keysOf_10 : decode b_Mo_keysOf 10 = .ok (.aload_n 0, 1) := by decide +kernel
theorem d_Mo_keysOf_11 : decode b_Mo_keysOf 11 = .ok (.getfield 58, 3) := by decide +kernel
theorem d_Mo_keysOf_14 : decode b_Mo_keysOf 14 = .ok (.iload_n 1, 1) := by decide +kernel
theorem d_Mo_keysOf_15 : decode b_Mo_keysOf 15 = .ok (.iaload, 1) := by decide +kernel
theorem d_Mo_keysOf_16 : decode b_Mo_keysOf 16 = .ok (.iload_n 3, 1) := by decide +kernel
theorem d_Mo_keysOf_17 : decode b_Mo_keysOf 17 = .ok (.ishr, 1) := by decide +kernel
theorem d_Mo_keysOf_18 : decode b_Mo_keysOf 18 = .ok (.iconst 1, 1) := by decide +kernel
theorem d_Mo_keysOf_19 : decode b_Mo_keysOf 19 = .ok (.iand, 1) := by decide +kernel
theorem d_Mo_keysOf_20 : decode b_Mo_keysOf 20 = .ok (.iadd, 1) := by decide +kernel
theorem d_Mo_keysOf_21 : decode b_Mo_keysOf 21 = .ok (.istore_n 2, 1) := by decide +kernel
theorem d_Mo_keysOf_22 : decode b_Mo_keysOf 22 = .ok (.iinc 3 1, 3) := by decide +kernel
theorem d_Mo_keysOf_25 : decode b_Mo_keysOf 25 = .ok (.goto (-21), 3) := by decide +kernel
theorem d_Mo_keysOf_28 : decode b_Mo_keysOf 28 = .ok (.iload_n 2, 1) := by decide +kernel
theorem d_Mo_keysOf_29 : decode b_Mo_keysOf 29 = .ok (.ireturn, 1) := by decide +kernel
theorem d_Mo_key_0 : decode b_Mo_key 0 = .ok (.aload_n 0, 1) := by decide +kernel
theorem d_Mo_key_1 : decode b_Mo_key 1 = .ok (.iload_n 1, 1) := by decide +kernel
theorem d_Mo_key_2 : decode b_Mo_key 2 = .ok (.invokestatic 153, 3) := by decide +kernel
theorem d_Mo_key_5 : decode b_Mo_key 5 = .ok (.ifCond .eq 12, 3) := by decide +kernel
theorem d_Mo_key_8 : decode b_Mo_key 8 = .ok (.aload_n 0, 1) := by decide +kernel
theorem d_Mo_key_9 : decode b_Mo_key 9 = .ok (.iload_n 2, 1) := by decide +kernel
theorem d_Mo_key_10 : decode b_Mo_key 10 = .ok (.iload_n 3, 1) := by decide +kernel
theorem d_Mo_key_11 : decode b_Mo_key 11 = .ok (.invokevirtual 133, 3) := by decide +kernel
theorem d_Mo_key_14 : decode b_Mo_key 14 = .ok (.ifCond .ne 7, 3) := by decide +kernel
theorem d_Mo_key_17 : decode b_Mo_key 17 = .ok (.iconst 1, 1) := by decide +kernel
theorem d_Mo_key_18 : decode b_Mo_key 18 = .ok (.goto 4, 3) := by decide +kernel
theorem d_Mo_key_21 : decode b_Mo_key 21 = .ok (.iconst 0, 1) := by decide +kernel
theorem d_Mo_key_22 : decode b_Mo_key 22 = .ok (.iconst 0, 1) := by decide +kernel
theorem d_Mo_key_23 : decode b_Mo_key 23 = .ok (.iconst 0, 1) := by decide +kernel
theorem d_Mo_key_24 : decode b_Mo_key 24 = .ok (.invokevirtual 98, 3) := by decide +kernel
theorem d_Mo_key_27 : decode b_Mo_key 27 = .ok (.ifCond .eq 5, 3) := by decide +kernel
theorem d_Mo_key_30 : decode b_Mo_key 30 = .ok (.iconst 0, 1) := by decide +kernel
theorem d_Mo_key_31 : decode b_Mo_key 31 = .ok (.ireturn, 1) := by decide +kernel
theorem d_Mo_key_32 : decode b_Mo_key 32 = .ok (.bipush 100, 2) := by decide +kernel
theorem d_Mo_key_34 : decode b_Mo_key 34 = .ok (.iload_n 2, 1) := by decide +kernel
theorem d_Mo_key_35 : decode b_Mo_key 35 = .ok (.imul, 1) := by decide +kernel
theorem d_Mo_key_36 : decode b_Mo_key 36 = .ok (.iload_n 3, 1) := by decide +kernel
theorem d_Mo_key_37 : decode b_Mo_key 37 = .ok (.iadd, 1) := by decide +kernel
theorem d_Mo_key_38 : decode b_Mo_key 38 = .ok (.istore 4, 2) := by decide +kernel
theorem d_Mo_key_40 : decode b_Mo_key 40 = .ok (.aload_n 0, 1) := by decide +kernel
theorem d_Mo_key_41 : decode b_Mo_key 41 = .ok (.getfield 89, 3) := by decide +kernel
theorem d_Mo_key_44 : decode b_Mo_key 44 = .ok (.ifCond .ne 10, 3) := by decide +kernel
theorem d_Mo_key_47 : decode b_Mo_key 47 = .ok (.aload_n 0, 1) := by decide +kernel
theorem d_Mo_key_48 : decode b_Mo_key 48 = .ok (.invokevirtual 102, 3) := by decide +kernel
theorem d_Mo_key_51 : decode b_Mo_key 51 = .ok (.ifCond .ne 6, 3) := by decide +kernel
theorem d_Mo_key_54 : decode b_Mo_key 54 = .ok (.bipush (-2), 2) := by decide +kernel
theorem d_Mo_key_56 : decode b_Mo_key 56 = .ok (.ireturn, 1) := by decide +kernel
theorem d_Mo_key_57 : decode b_Mo_key 57 = .ok (.aload_n 0, 1) := by decide +kernel
theorem d_Mo_key_58 : decode b_Mo_key 58 = .ok (.getfield 58, 3) := by decide +kernel
theorem d_Mo_key_61 : decode b_Mo_key 61 = .ok (.iload 4, 2) := by decide +kernel
theorem d_Mo_key_63 : decode b_Mo_key 63 = .ok (.aload_n 0, 1) := by decide +kernel
theorem d_Mo_key_64 : decode b_Mo_key 64 = .ok (.getfield 58, 3) := by decide +kernel
theorem d_Mo_key_67 : decode b_Mo_key 67 = .ok (.iload 4, 2) := by decide +kernel
theorem d_Mo_key_69 : decode b_Mo_key 69 = .ok (.iaload, 1) := by decide +kernel
theorem d_Mo_key_70 : decode b_Mo_key 70 = .ok (.iconst 1, 1) := by decide +kernel
theorem d_Mo_key_71 : decode b_Mo_key 71 = .ok (.iload_n 1, 1) := by decide +kernel
theorem d_Mo_key_72 : decode b_Mo_key 72 = .ok (.ishl, 1) := by decide +kernel
theorem d_Mo_key_73 : decode b_Mo_key 73 = .ok (.ior, 1) := by decide +kernel
theorem d_Mo_key_74 : decode b_Mo_key 74 = .ok (.iastore, 1) := by decide +kernel
theorem d_Mo_key_75 : decode b_Mo_key 75 = .ok (.aload_n 0, 1) := by decide +kernel
theorem d_Mo_key_76 : decode b_Mo_key 76 = .ok (.iload 4, 2) := by decide +kernel
theorem d_Mo_key_78 : decode b_Mo_key 78 = .ok (.invokevirtual 156, 3) := by decide +kernel
theorem d_Mo_key_81 : decode b_Mo_key 81 = .ok (.ireturn, 1) := by decide +kernel
theorem d_Mo_arm_0 : decode b_Mo_arm 0 = .ok (.aload_n 0, 1) := by decide +kernel
theorem d_Mo_arm_1 : decode b_Mo_arm 1 = .ok (.aload_n 0, 1) := by decide +kernel
theorem d_Mo_arm_2 : decode b_Mo_arm 2 = .ok (.iload_n 1, 1) := by decide +kernel
theorem d_Mo_arm_3 : decode b_Mo_arm 3 = .ok (.iload_n 2, 1) := by decide +kernel
theorem d_Mo_arm_4 : decode b_Mo_arm 4 = .ok (.invokevirtual 133, 3) := by decide +kernel
theorem d_Mo_arm_7 : decode b_Mo_arm 7 = .ok (.ifCond .ne 7, 3) := by decide +kernel
theorem d_Mo_arm_10 : decode b_Mo_arm 10 = .ok (.iconst 1, 1) := by decide +kernel
theorem d_Mo_arm_11 : decode b_Mo_arm 11 = .ok (.goto 4, 3) := by decide +kernel
theorem d_Mo_arm_14 : decode b_Mo_arm 14 = .ok (.iconst 0, 1) := by decide +kernel
theorem d_Mo_arm_15 : decode b_Mo_arm 15 = .ok (.iconst 0, 1) := by decide +kernel
theorem d_Mo_arm_16 : decode b_Mo_arm 16 = .ok (.iconst 0, 1) := by decide +kernel
theorem d_Mo_arm_17 : decode b_Mo_arm 17 = .ok (.invokevirtual 98, 3) := by decide +kernel
theorem d_Mo_arm_20 : decode b_Mo_arm 20 = .ok (.ifCond .eq 5, 3) := by decide +kernel
theorem d_Mo_arm_23 : decode b_Mo_arm 23 = .ok (.iconst 0, 1) := by decide +kernel
theorem d_Mo_arm_24 : decode b_Mo_arm 24 = .ok (.ireturn, 1) := by decide +kernel
theorem d_Mo_arm_25 : decode b_Mo_arm 25 = .ok (.bipush 100, 2) := by decide +kernel
theorem d_Mo_arm_27 : decode b_Mo_arm 27 = .ok (.iload_n 1, 1) := by decide +kernel
theorem d_Mo_arm_28 : decode b_Mo_arm 28 = .ok (.imul, 1) := by decide +kernel
theorem d_Mo_arm_29 : decode b_Mo_arm 29 = .ok (.iload_n 2, 1) := by decide +kernel
theorem d_Mo_arm_30 : decode b_Mo_arm 30 = .ok (.iadd, 1) := by decide +kernel
theorem d_Mo_arm_31 : decode b_Mo_arm 31 = .ok (.istore_n 3, 1) := by decide +kernel
theorem d_Mo_arm_32 : decode b_Mo_arm 32 = .ok (.aload_n 0, 1) := by decide +kernel
theorem d_Mo_arm_33 : decode b_Mo_arm 33 = .ok (.getfield 46, 3) := by decide +kernel
theorem d_Mo_arm_36 : decode b_Mo_arm 36 = .ok (.iload_n 3, 1) := by decide +kernel
theorem d_Mo_arm_37 : decode b_Mo_arm 37 = .ok (.iaload, 1) := by decide +kernel
theorem d_Mo_arm_38 : decode b_Mo_arm 38 = .ok (.iconst 1, 1) := by decide +kernel
theorem d_Mo_arm_39 : decode b_Mo_arm 39 = .ok (.if_icmp .ne 28, 3) := by decide +kernel
theorem d_Mo_arm_42 : decode b_Mo_arm 42 = .ok (.aload_n 0, 1) := by decide +kernel
theorem d_Mo_arm_43 : decode b_Mo_arm 43 = .ok (.getfield 140, 3) := by decide +kernel
theorem d_Mo_arm_46 : decode b_Mo_arm 46 = .ok (.ifCond .ne 12, 3) := by decide +kernel
theorem d_Mo_arm_49 : decode b_Mo_arm 49 = .ok (.aload_n 0, 1) := by decide +kernel
theorem d_Mo_arm_50 : decode b_Mo_arm 50 = .ok (.iload_n 3, 1) := by decide +kernel
theorem d_Mo_arm_51 : decode b_Mo_arm 51 = .ok (.invokevirtual 156, 3) := by decide +kernel
theorem d_Mo_arm_54 : decode b_Mo_arm 54 = .ok (.iconst 1, 1) := by decide +kernel
theorem d_Mo_arm_55 : decode b_Mo_arm 55 = .ok (.if_icmp .le 12, 3) := by decide +kernel
theorem d_Mo_arm_58 : decode b_Mo_arm 58 = .ok (.aload_n 0, 1) := by decide +kernel
theorem d_Mo_arm_59 : decode b_Mo_arm 59 = .ok (.getfield 52, 3) := by decide +kernel
theorem d_Mo_arm_62 : decode b_Mo_arm 62 = .ok (.iload_n 3, 1) := by decide +kernel
theorem d_Mo_arm_63 : decode b_Mo_arm 63 = .ok (.iaload, 1) := by decide +kernel
theorem d_Mo_arm_64 : decode b_Mo_arm 64 = .ok (.goto 4, 3) := by decide +kernel
theorem d_Mo_arm_67 : decode b_Mo_arm 67 = .ok (.iconst (-1), 1) := by decide +kernel
theorem d_Mo_arm_68 : decode b_Mo_arm 68 = .ok (.ireturn, 1) := by decide +kernel
theorem d_Mo_open_0 : decode b_Mo_open 0 = .ok (.aload_n 0, 1) := by decide +kernel
theorem d_Mo_open_1 : decode b_Mo_open 1 = .ok (.iload_n 1, 1) := by decide +kernel
theorem d_Mo_open_2 : decode b_Mo_open 2 = .ok (.invokestatic 153, 3) := by decide +kernel
theorem d_Mo_open_5 : decode b_Mo_open 5 = .ok (.ifCond .eq 10, 3) := by decide +kernel
theorem d_Mo_open_8 : decode b_Mo_open 8 = .ok (.iload_n 2, 1) := by decide +kernel
theorem d_Mo_open_9 : decode b_Mo_open 9 = .ok (.invokestatic 153, 3) := by decide +kernel
theorem d_Mo_open_12 : decode b_Mo_open 12 = .ok (.ifCond .ne 7, 3) := by decide +kernel
theorem d_Mo_open_15 : decode b_Mo_open 15 = .ok (.iconst 1, 1) := by decide +kernel
theorem d_Mo_open_16 : decode b_Mo_open 16 = .ok (.goto 4, 3) := by decide +kernel
theorem d_Mo_open_19 : decode b_Mo_open 19 = .ok (.iconst 0, 1) := by decide +kernel
theorem d_Mo_open_20 : decode b_Mo_open 20 = .ok (.iconst 0, 1) := by decide +kernel
theorem d_Mo_open_21 : decode b_Mo_open 21 = .ok (.iconst 0, 1) := by decide +kernel
theorem d_Mo_open_22 : decode b_Mo_open 22 = .ok (.invokevirtual 98, 3) := by decide +kernel
theorem d_Mo_open_25 : decode b_Mo_open 25 = .ok (.ifCond .eq 5, 3) := by decide +kernel
theorem d_Mo_open_28 : decode b_Mo_open 28 = .ok (.iconst 0, 1) := by decide +kernel
theorem d_Mo_open_29 : decode b_Mo_open 29 = .ok (.ireturn, 1) := by decide +kernel
theorem d_Mo_open_30 : decode b_Mo_open 30 = .ok (.aload_n 0, 1) := by decide +kernel
theorem d_Mo_open_31 : decode b_Mo_open 31 = .ok (.getfield 89, 3) := by decide +kernel
theorem d_Mo_open_34 : decode b_Mo_open 34 = .ok (.ifCond .eq 6, 3) := by decide +kernel
theorem d_Mo_open_37 : decode b_Mo_open 37 = .ok (.bipush (-2), 2) := by decide +kernel
theorem d_Mo_open_39 : decode b_Mo_open 39 = .ok (.ireturn, 1) := by decide +kernel
theorem d_Mo_open_40 : decode b_Mo_open 40 = .ok (.aload_n 0, 1) := by decide +kernel
theorem d_Mo_open_41 : decode b_Mo_open 41 = .ok (.getfield 140, 3) := by decide +kernel
theorem d_Mo_open_44 : decode b_Mo_open 44 = .ok (.ifCond .ne 8, 3) := by decide +kernel
theorem d_Mo_open_47 : decode b_Mo_open 47 = .ok (.iload_n 1, 1) := by decide +kernel
theorem d_Mo_open_48 : decode b_Mo_open 48 = .ok (.iload_n 2, 1) := by decide +kernel
theorem d_Mo_open_49 : decode b_Mo_open 49 = .ok (.if_icmp .ne 5, 3) := by decide +kernel
theorem d_Mo_open_52 : decode b_Mo_open 52 = .ok (.iconst 0, 1) := by decide +kernel
theorem d_Mo_open_53 : decode b_Mo_open 53 = .ok (.ireturn, 1) := by decide +kernel
theorem d_Mo_open_54 : decode b_Mo_open 54 = .ok (.aload_n 0, 1) := by decide +kernel
theorem d_Mo_open_55 : decode b_Mo_open 55 = .ok (.invokevirtual 102, 3) := by decide +kernel
theorem d_Mo_open_58 : decode b_Mo_open 58 = .ok (.ifCond .ne 6, 3) := by decide +kernel
theorem d_Mo_open_61 : decode b_Mo_open 61 = .ok (.bipush (-2), 2) := by decide +kernel
theorem d_Mo_open_63 : decode b_Mo_open 63 = .ok (.ireturn, 1) := by decide +kernel
theorem d_Mo_open_64 : decode b_Mo_open 64 = .ok (.aload_n 0, 1) := by decide +kernel
theorem d_Mo_open_65 : decode b_Mo_open 65 = .ok (.iconst 1, 1) := by decide +kernel
theorem d_Mo_open_66 : decode b_Mo_open 66 = .ok (.putfield 140, 3) := by decide +kernel
theorem d_Mo_open_69 : decode b_Mo_open 69 = .ok (.iconst 1, 1) := by decide +kernel
theorem d_Mo_open_70 : decode b_Mo_open 70 = .ok (.ireturn, 1) := by decide +kernel
theorem d_Mo_known_0 : decode b_Mo_known 0 = .ok (.iconst 0, 1) := by decide +kernel
theorem d_Mo_known_1 : decode b_Mo_known 1 = .ok (.istore_n 3, 1) := by decide +kernel
theorem d_Mo_known_2 : decode b_Mo_known 2 = .ok (.iconst 0, 1) := by decide +kernel
theorem d_Mo_known_3 : decode b_Mo_known 3 = .ok (.istore 4, 2) := by decide +kernel
theorem d_Mo_known_5 : decode b_Mo_known 5 = .ok (.iload 4, 2) := by decide +kernel
theorem d_Mo_known_7 : decode b_Mo_known 7 = .ok (.sipush 1000, 3) := by decide +kernel
theorem d_Mo_known_10 : decode b_Mo_known 10 = .ok (.if_icmp .ge 50, 3) := by decide +kernel
theorem d_Mo_known_13 : decode b_Mo_known 13 = .ok (.aload_n 0, 1) := by decide +kernel
theorem d_Mo_known_14 : decode b_Mo_known 14 = .ok (.getfield 46, 3) := by decide +kernel
theorem d_Mo_known_17 : decode b_Mo_known 17 = .ok (.iload 4, 2) := by decide +kernel
theorem d_Mo_known_19 : decode b_Mo_known 19 = .ok (.iaload, 1) := by decide +kernel
theorem d_Mo_known_20 : decode b_Mo_known 20 = .ok (.iconst 1, 1) := by decide +kernel
theorem d_Mo_known_21 : decode b_Mo_known 21 = .ok (.if_icmp .ne 31, 3) := by decide +kernel
theorem d_Mo_known_24 : decode b_Mo_known 24 = .ok (.aload_n 0, 1) := by decide +kernel
theorem d_Mo_known_25 : decode b_Mo_known 25 = .ok (.getfield 49, 3) := by decide +kernel
theorem d_Mo_known_28 : decode b_Mo_known 28 = .ok (.iload 4, 2) := by decide +kernel
theorem d_Mo_known_30 : decode b_Mo_known 30 = .ok (.iaload, 1) := by decide +kernel
theorem d_Mo_known_31 : decode b_Mo_known 31 = .ok (.iload_n 1, 1) := by decide +kernel
theorem d_Mo_known_32 : decode b_Mo_known 32 = .ok (.if_icmp .ne 20, 3) := by decide +kernel
theorem d_Mo_known_35 : decode b_Mo_known 35 = .ok (.aload_n 0, 1) := by decide +kernel
theorem d_Mo_known_36 : decode b_Mo_known 36 = .ok (.getfield 52, 3) := by decide +kernel
theorem d_Mo_known_39 : decode b_Mo_known 39 = .ok (.iload 4, 2) := by decide +kernel
theorem d_Mo_known_41 : decode b_Mo_known 41 = .ok (.iaload, 1) := by decide +kernel
theorem d_Mo_known_42 : decode b_Mo_known 42 = .ok (.iload_n 2, 1) := by decide +kernel
theorem d_Mo_known_43 : decode b_Mo_known 43 = .ok (.if_icmp .ne 9, 3) := by decide +kernel
theorem d_Mo_known_46 : decode b_Mo_known 46 = .ok (.iload_n 3, 1) := by decide +kernel
theorem d_Mo_known_47 : decode b_Mo_known 47 = .ok (.iconst 1, 1) := by decide +kernel
theorem d_Mo_known_48 : decode b_Mo_known 48 = .ok (.iadd, 1) := by decide +kernel
theorem d_Mo_known_49 : decode b_Mo_known 49 = .ok (.goto 4, 3) := by decide +kernel
theorem d_Mo_known_52 : decode b_Mo_known 52 = .ok (.iload_n 3, 1) := by decide +kernel
theorem d_Mo_known_53 : decode b_Mo_known 53 = .ok (.istore_n 3, 1) := by decide +kernel
theorem d_Mo_known_54 : decode b_Mo_known 54 = .ok (.iinc 4 1, 3) := by decide +kernel
theorem d_Mo_known_57 : decode b_Mo_known 57 = .ok (.goto (-52), 3) := by decide +kernel
theorem d_Mo_known_60 : decode b_Mo_known 60 = .ok (.iload_n 3, 1) := by decide +kernel
theorem d_Mo_known_61 : decode b_Mo_known 61 = .ok (.ireturn, 1) := by decide +kernel
theorem d_Mo_count_0 : decode b_Mo_count 0 = .ok (.aload_n 0, 1) := by decide +kernel
theorem d_Mo_count_1 : decode b_Mo_count 1 = .ok (.iload_n 1, 1) := by decide +kernel
theorem d_Mo_count_2 : decode b_Mo_count 2 = .ok (.invokestatic 137, 3) := by decide +kernel
theorem d_Mo_count_5 : decode b_Mo_count 5 = .ok (.ifCond .eq 11, 3) := by decide +kernel
theorem d_Mo_count_8 : decode b_Mo_count 8 = .ok (.aload_n 0, 1) := by decide +kernel
theorem d_Mo_count_9 : decode b_Mo_count 9 = .ok (.iload_n 2, 1) := by decide +kernel
theorem d_Mo_count_10 : decode b_Mo_count 10 = .ok (.invokevirtual 125, 3) := by decide +kernel
theorem d_Mo_count_13 : decode b_Mo_count 13 = .ok (.ifCond .ne 7, 3) := by decide +kernel
theorem d_Mo_count_16 : decode b_Mo_count 16 = .ok (.iconst 1, 1) := by decide +kernel
theorem d_Mo_count_17 : decode b_Mo_count 17 = .ok (.goto 4, 3) := by decide +kernel
theorem d_Mo_count_20 : decode b_Mo_count 20 = .ok (.iconst 0, 1) := by decide +kernel
theorem d_Mo_count_21 : decode b_Mo_count 21 = .ok (.aload_n 0, 1) := by decide +kernel
theorem d_Mo_count_22 : decode b_Mo_count 22 = .ok (.getfield 82, 3) := by decide +kernel
theorem d_Mo_count_25 : decode b_Mo_count 25 = .ok (.ifCond .ne 7, 3) := by decide +kernel
theorem d_Mo_count_28 : decode b_Mo_count 28 = .ok (.iconst 1, 1) := by decide +kernel
theorem d_Mo_count_29 : decode b_Mo_count 29 = .ok (.goto 4, 3) := by decide +kernel
theorem d_Mo_count_32 : decode b_Mo_count 32 = .ok (.iconst 0, 1) := by decide +kernel
theorem d_Mo_count_33 : decode b_Mo_count 33 = .ok (.iconst 0, 1) := by decide +kernel
theorem d_Mo_count_34 : decode b_Mo_count 34 = .ok (.invokevirtual 98, 3) := by decide +kernel
theorem d_Mo_count_37 : decode b_Mo_count 37 = .ok (.ifCond .eq 5, 3) := by decide +kernel
theorem d_Mo_count_40 : decode b_Mo_count 40 = .ok (.iconst 0, 1) := by decide +kernel
theorem d_Mo_count_41 : decode b_Mo_count 41 = .ok (.ireturn, 1) := by decide +kernel
theorem d_Mo_count_42 : decode b_Mo_count 42 = .ok (.aload_n 0, 1) := by decide +kernel
theorem d_Mo_count_43 : decode b_Mo_count 43 = .ok (.getfield 140, 3) := by decide +kernel
theorem d_Mo_count_46 : decode b_Mo_count 46 = .ok (.ifCond .eq 12, 3) := by decide +kernel
theorem d_Mo_count_49 : decode b_Mo_count 49 = .ok (.aload_n 0, 1) := by decide +kernel
theorem d_Mo_count_50 : decode b_Mo_count 50 = .ok (.iload_n 1, 1) := by decide +kernel
theorem d_Mo_count_51 : decode b_Mo_count 51 = .ok (.iload_n 2, 1) := by decide +kernel
theorem d_Mo_count_52 : decode b_Mo_count 52 = .ok (.invokevirtual 159, 3) := by decide +kernel
theorem d_Mo_count_55 : decode b_Mo_count 55 = .ok (.goto 4, 3) := by decide +kernel
theorem d_Mo_count_58 : decode b_Mo_count 58 = .ok (.iconst (-1), 1) := by decide +kernel
theorem d_Mo_count_59 : decode b_Mo_count 59 = .ok (.ireturn, 1) := by decide +kernel
theorem d_Mo_spread_0 : decode b_Mo_spread 0 = .ok (.aload_n 0, 1) := by decide +kernel
theorem d_Mo_spread_1 : decode b_Mo_spread 1 = .ok (.iload_n 1, 1) := by decide +kernel
theorem d_Mo_spread_2 : decode b_Mo_spread 2 = .ok (.invokestatic 137, 3) := by decide +kernel
theorem d_Mo_spread_5 : decode b_Mo_spread 5 = .ok (.ifCond .ne 7, 3) := by decide +kernel
theorem d_Mo_spread_8 : decode b_Mo_spread 8 = .ok (.iconst 1, 1) := by decide +kernel
theorem d_Mo_spread_9 : decode b_Mo_spread 9 = .ok (.goto 4, 3) := by decide +kernel
theorem d_Mo_spread_12 : decode b_Mo_spread 12 = .ok (.iconst 0, 1) := by decide +kernel
theorem d_Mo_spread_13 : decode b_Mo_spread 13 = .ok (.aload_n 0, 1) := by decide +kernel
theorem d_Mo_spread_14 : decode b_Mo_spread 14 = .ok (.getfield 82, 3) := by decide +kernel
theorem d_Mo_spread_17 : decode b_Mo_spread 17 = .ok (.ifCond .ne 7, 3) := by decide +kernel
theorem d_Mo_spread_20 : decode b_Mo_spread 20 = .ok (.iconst 1, 1) := by decide +kernel
theorem d_Mo_spread_21 : decode b_Mo_spread 21 = .ok (.goto 4, 3) := by decide +kernel
theorem d_Mo_spread_24 : decode b_Mo_spread 24 = .ok (.iconst 0, 1) := by decide +kernel
theorem d_Mo_spread_25 : decode b_Mo_spread 25 = .ok (.iconst 0, 1) := by decide +kernel
theorem d_Mo_spread_26 : decode b_Mo_spread 26 = .ok (.invokevirtual 98, 3) := by decide +kernel
theorem d_Mo_spread_29 : decode b_Mo_spread 29 = .ok (.ifCond .eq 5, 3) := by decide +kernel
theorem d_Mo_spread_32 : decode b_Mo_spread 32 = .ok (.iconst 0, 1) := by decide +kernel
theorem d_Mo_spread_33 : decode b_Mo_spread 33 = .ok (.ireturn, 1) := by decide +kernel
theorem d_Mo_spread_34 : decode b_Mo_spread 34 = .ok (.iconst 0, 1) := by decide +kernel
theorem d_Mo_spread_35 : decode b_Mo_spread 35 = .ok (.istore_n 2, 1) := by decide +kernel
theorem d_Mo_spread_36 : decode b_Mo_spread 36 = .ok (.iconst 0, 1) := by decide +kernel
theorem d_Mo_spread_37 : decode b_Mo_spread 37 = .ok (.istore_n 3, 1) := by decide +kernel
theorem d_Mo_spread_38 : decode b_Mo_spread 38 = .ok (.iload_n 3, 1) := by decide +kernel
theorem d_Mo_spread_39 : decode b_Mo_spread 39 = .ok (.aload_n 0, 1) := by decide +kernel
theorem d_Mo_spread_40 : decode b_Mo_spread 40 = .ok (.getfield 82, 3) := by decide +kernel
theorem d_Mo_spread_43 : decode b_Mo_spread 43 = .ok (.if_icmp .ge 71, 3) := by decide +kernel
theorem d_Mo_spread_46 : decode b_Mo_spread 46 = .ok (.iconst 0, 1) := by decide +kernel
theorem d_Mo_spread_47 : decode b_Mo_spread 47 = .ok (.istore 4, 2) := by decide +kernel
theorem d_Mo_spread_49 : decode b_Mo_spread 49 = .ok (.iload 4, 2) := by decide +kernel
theorem d_Mo_spread_51 : decode b_Mo_spread 51 = .ok (.aload_n 0, 1) := by decide +kernel
theorem d_Mo_spread_52 : decode b_Mo_spread 52 = .ok (.getfield 82, 3) := by decide +kernel
theorem d_Mo_spread_55 : decode b_Mo_spread 55 = .ok (.if_icmp .ge 53, 3) := by decide +kernel
theorem d_Mo_spread_58 : decode b_Mo_spread 58 = .ok (.aload_n 0, 1) := by decide +kernel
theorem d_Mo_spread_59 : decode b_Mo_spread 59 = .ok (.iload_n 1, 1) := by decide +kernel
theorem d_Mo_spread_60 : decode b_Mo_spread 60 = .ok (.iload_n 3, 1) := by decide +kernel
theorem d_Mo_spread_61 : decode b_Mo_spread 61 = .ok (.invokevirtual 159, 3) := by decide +kernel
theorem d_Mo_spread_64 : decode b_Mo_spread 64 = .ok (.aload_n 0, 1) := by decide +kernel
theorem d_Mo_spread_65 : decode b_Mo_spread 65 = .ok (.getfield 7, 3) := by decide +kernel
theorem d_Mo_spread_68 : decode b_Mo_spread 68 = .ok (.iload 4, 2) := by decide +kernel
theorem d_Mo_spread_70 : decode b_Mo_spread 70 = .ok (.iaload, 1) := by decide +kernel
theorem d_Mo_spread_71 : decode b_Mo_spread 71 = .ok (.imul, 1) := by decide +kernel
theorem d_Mo_spread_72 : decode b_Mo_spread 72 = .ok (.aload_n 0, 1) := by decide +kernel
theorem d_Mo_spread_73 : decode b_Mo_spread 73 = .ok (.iload_n 1, 1) := by decide +kernel
theorem d_Mo_spread_74 : decode b_Mo_spread 74 = .ok (.iload 4, 2) := by decide +kernel
theorem d_Mo_spread_76 : decode b_Mo_spread 76 = .ok (.invokevirtual 159, 3) := by decide +kernel
theorem d_Mo_spread_79 : decode b_Mo_spread 79 = .ok (.aload_n 0, 1) := by decide +kernel
theorem d_Mo_spread_80 : decode b_Mo_spread 80 = .ok (.getfield 7, 3) := by decide +kernel
theorem d_Mo_spread_83 : decode b_Mo_spread 83 = .ok (.iload_n 3, 1) := by decide +kernel
theorem d_Mo_spread_84 : decode b_Mo_spread 84 = .ok (.iaload, 1) := by decide +kernel
theorem d_Mo_spread_85 : decode b_Mo_spread 85 = .ok (.imul, 1) := by decide +kernel
theorem d_Mo_spread_86 : decode b_Mo_spread 86 = .ok (.isub, 1) := by decide +kernel
theorem d_Mo_spread_87 : decode b_Mo_spread 87 = .ok (.istore 5, 2) := by decide +kernel
theorem d_Mo_spread_89 : decode b_Mo_spread 89 = .ok (.iload 5, 2) := by decide +kernel
theorem d_Mo_spread_91 : decode b_Mo_spread 91 = .ok (.iload_n 2, 1) := by decide +kernel
theorem d_Mo_spread_92 : decode b_Mo_spread 92 = .ok (.if_icmp .le 8, 3) := by decide +kernel
theorem d_Mo_spread_95 : decode b_Mo_spread 95 = .ok (.iload 5, 2) := by decide +kernel
theorem d_Mo_spread_97 : decode b_Mo_spread 97 = .ok (.goto 4, 3) := by decide +kernel
theorem d_Mo_spread_100 : decode b_Mo_spread 100 = .ok (.iload_n 2, 1) := by decide +kernel
theorem d_Mo_spread_101 : decode b_Mo_spread 101 = .ok (.istore_n 2, 1) := by decide +kernel
theorem d_Mo_spread_102 : decode b_Mo_spread 102 = .ok (.iinc 4 1, 3) := by decide +kernel
theorem d_Mo_spread_105 : decode b_Mo_spread 105 = .ok (.goto (-56), 3) := by decide +kernel
theorem d_Mo_spread_108 : decode b_Mo_spread 108 = .ok (.iinc 3 1, 3) := by decide +kernel
theorem d_Mo_spread_111 : decode b_Mo_spread 111 = .ok (.goto (-73), 3) := by decide +kernel
theorem d_Mo_spread_114 : decode b_Mo_spread 114 = .ok (.aload_n 0, 1) := by decide +kernel
theorem d_Mo_spread_115 : decode b_Mo_spread 115 = .ok (.getfield 140, 3) := by decide +kernel
theorem d_Mo_spread_118 : decode b_Mo_spread 118 = .ok (.ifCond .eq 7, 3) := by decide +kernel
theorem d_Mo_spread_121 : decode b_Mo_spread 121 = .ok (.iload_n 2, 1) := by decide +kernel
theorem d_Mo_spread_122 : decode b_Mo_spread 122 = .ok (.goto 4, 3) := by decide +kernel
theorem d_Mo_spread_125 : decode b_Mo_spread 125 = .ok (.iconst (-1), 1) := by decide +kernel
theorem d_Mo_spread_126 : decode b_Mo_spread 126 = .ok (.ireturn, 1) := by decide +kernel
theorem d_Mo_entry_0 : decode b_Mo_entry 0 = .ok (.aload_n 0, 1) := by decide +kernel
theorem d_Mo_entry_1 : decode b_Mo_entry 1 = .ok (.iload_n 1, 1) := by decide +kernel
theorem d_Mo_entry_2 : decode b_Mo_entry 2 = .ok (.invokestatic 137, 3) := by decide +kernel
theorem d_Mo_entry_5 : decode b_Mo_entry 5 = .ok (.ifCond .ne 7, 3) := by decide +kernel
theorem d_Mo_entry_8 : decode b_Mo_entry 8 = .ok (.iconst 1, 1) := by decide +kernel
theorem d_Mo_entry_9 : decode b_Mo_entry 9 = .ok (.goto 4, 3) := by decide +kernel
theorem d_Mo_entry_12 : decode b_Mo_entry 12 = .ok (.iconst 0, 1) := by decide +kernel
theorem d_Mo_entry_13 : decode b_Mo_entry 13 = .ok (.iconst 0, 1) := by decide +kernel
theorem d_Mo_entry_14 : decode b_Mo_entry 14 = .ok (.iconst 0, 1) := by decide +kernel
theorem d_Mo_entry_15 : decode b_Mo_entry 15 = .ok (.invokevirtual 98, 3) := by decide +kernel
theorem d_Mo_entry_18 : decode b_Mo_entry 18 = .ok (.ifCond .ne 14, 3) := by decide +kernel
theorem d_Mo_entry_21 : decode b_Mo_entry 21 = .ok (.aload_n 0, 1) := by decide +kernel
theorem d_Mo_entry_22 : decode b_Mo_entry 22 = .ok (.getfield 140, 3) := by decide +kernel
theorem d_Mo_entry_25 : decode b_Mo_entry 25 = .ok (.ifCond .eq 7, 3) := by decide +kernel
theorem d_Mo_entry_28 : decode b_Mo_entry 28 = .ok (.iload_n 2, 1) := by decide +kernel
theorem d_Mo_entry_29 : decode b_Mo_entry 29 = .ok (.ifCond .ge 16, 3) := by decide +kernel
theorem d_Mo_entry_32 : decode b_Mo_entry 32 = .ok (.aload_n 0, 1) := by decide +kernel
theorem d_Mo_entry_33 : decode b_Mo_entry 33 = .ok (.getfield 70, 3) := by decide +kernel
theorem d_Mo_entry_36 : decode b_Mo_entry 36 = .ok (.ifCond .le 7, 3) := by decide +kernel
theorem d_Mo_entry_39 : decode b_Mo_entry 39 = .ok (.iconst 0, 1) := by decide +kernel
theorem d_Mo_entry_40 : decode b_Mo_entry 40 = .ok (.goto 4, 3) := by decide +kernel
theorem d_Mo_entry_43 : decode b_Mo_entry 43 = .ok (.iconst (-1), 1) := by decide +kernel
theorem d_Mo_entry_44 : decode b_Mo_entry 44 = .ok (.ireturn, 1) := by decide +kernel
theorem d_Mo_entry_45 : decode b_Mo_entry 45 = .ok (.iload_n 2, 1) := by decide +kernel
theorem d_Mo_entry_46 : decode b_Mo_entry 46 = .ok (.istore_n 3, 1) := by decide +kernel
theorem d_Mo_entry_47 : decode b_Mo_entry 47 = .ok (.iconst 0, 1) := by decide +kernel
theorem d_Mo_entry_48 : decode b_Mo_entry 48 = .ok (.istore 4, 2) := by decide +kernel
theorem d_Mo_entry_50 : decode b_Mo_entry 50 = .ok (.iload 4, 2) := by decide +kernel
theorem d_Mo_entry_52 : decode b_Mo_entry 52 = .ok (.aload_n 0, 1) := by decide +kernel
theorem d_Mo_entry_53 : decode b_Mo_entry 53 = .ok (.getfield 95, 3) := by decide +kernel
theorem d_Mo_entry_56 : decode b_Mo_entry 56 = .ok (.if_icmp .ge 48, 3) := by decide +kernel
theorem d_Mo_entry_59 : decode b_Mo_entry 59 = .ok (.aload_n 0, 1) := by decide +kernel
theorem d_Mo_entry_60 : decode b_Mo_entry 60 = .ok (.getfield 13, 3) := by decide +kernel
theorem d_Mo_entry_63 : decode b_Mo_entry 63 = .ok (.iload 4, 2) := by decide +kernel
theorem d_Mo_entry_65 : decode b_Mo_entry 65 = .ok (.iaload, 1) := by decide +kernel
theorem d_Mo_entry_66 : decode b_Mo_entry 66 = .ok (.iload_n 1, 1) := by decide +kernel
theorem d_Mo_entry_67 : decode b_Mo_entry 67 = .ok (.if_icmp .ne 31, 3) := by decide +kernel
theorem d_Mo_entry_70 : decode b_Mo_entry 70 = .ok (.iload_n 3, 1) := by decide +kernel
theorem d_Mo_entry_71 : decode b_Mo_entry 71 = .ok (.aload_n 0, 1) := by decide +kernel
theorem d_Mo_entry_72 : decode b_Mo_entry 72 = .ok (.getfield 106, 3) := by decide +kernel
theorem d_Mo_entry_75 : decode b_Mo_entry 75 = .ok (.if_icmp .ge 16, 3) := by decide +kernel
theorem d_Mo_entry_78 : decode b_Mo_entry 78 = .ok (.aload_n 0, 1) := by decide +kernel
theorem d_Mo_entry_79 : decode b_Mo_entry 79 = .ok (.getfield 17, 3) := by decide +kernel
theorem d_Mo_entry_82 : decode b_Mo_entry 82 = .ok (.bipush 24, 2) := by decide +kernel
theorem d_Mo_entry_84 : decode b_Mo_entry 84 = .ok (.iload 4, 2) := by decide +kernel
theorem d_Mo_entry_86 : decode b_Mo_entry 86 = .ok (.imul, 1) := by decide +kernel
theorem d_Mo_entry_87 : decode b_Mo_entry 87 = .ok (.iload_n 3, 1) := by decide +kernel
theorem d_Mo_entry_88 : decode b_Mo_entry 88 = .ok (.iadd, 1) := by decide +kernel
theorem d_Mo_entry_89 : decode b_Mo_entry 89 = .ok (.baload, 1) := by decide +kernel
theorem d_Mo_entry_90 : decode b_Mo_entry 90 = .ok (.ireturn, 1) := by decide +kernel
theorem d_Mo_entry_91 : decode b_Mo_entry 91 = .ok (.iload_n 3, 1) := by decide +kernel
theorem d_Mo_entry_92 : decode b_Mo_entry 92 = .ok (.aload_n 0, 1) := by decide +kernel
theorem d_Mo_entry_93 : decode b_Mo_entry 93 = .ok (.getfield 106, 3) := by decide +kernel
theorem d_Mo_entry_96 : decode b_Mo_entry 96 = .ok (.isub, 1) := by decide +kernel
theorem d_Mo_entry_97 : decode b_Mo_entry 97 = .ok (.istore_n 3, 1) := by decide +kernel
theorem d_Mo_entry_98 : decode b_Mo_entry 98 = .ok (.iinc 4 1, 3) := by decide +kernel
theorem d_Mo_entry_101 : decode b_Mo_entry 101 = .ok (.goto (-51), 3) := by decide +kernel
theorem d_Mo_entry_104 : decode b_Mo_entry 104 = .ok (.iconst (-1), 1) := by decide +kernel
theorem d_Mo_entry_105 : decode b_Mo_entry 105 = .ok (.ireturn, 1) := by decide +kernel
theorem d_Mo_blocks_0 : decode b_Mo_blocks 0 = .ok (.aload_n 0, 1) := by decide +kernel
theorem d_Mo_blocks_1 : decode b_Mo_blocks 1 = .ok (.iload_n 1, 1) := by decide +kernel
theorem d_Mo_blocks_2 : decode b_Mo_blocks 2 = .ok (.invokestatic 137, 3) := by decide +kernel
theorem d_Mo_blocks_5 : decode b_Mo_blocks 5 = .ok (.ifCond .ne 7, 3) := by decide +kernel
theorem d_Mo_blocks_8 : decode b_Mo_blocks 8 = .ok (.iconst 1, 1) := by decide +kernel
theorem d_Mo_blocks_9 : decode b_Mo_blocks 9 = .ok (.goto 4, 3) := by decide +kernel
theorem d_Mo_blocks_12 : decode b_Mo_blocks 12 = .ok (.iconst 0, 1) := by decide +kernel
theorem d_Mo_blocks_13 : decode b_Mo_blocks 13 = .ok (.iconst 0, 1) := by decide +kernel
theorem d_Mo_blocks_14 : decode b_Mo_blocks 14 = .ok (.iconst 0, 1) := by decide +kernel
theorem d_Mo_blocks_15 : decode b_Mo_blocks 15 = .ok (.invokevirtual 98, 3) := by decide +kernel
theorem d_Mo_blocks_18 : decode b_Mo_blocks 18 = .ok (.ifCond .eq 7, 3) := by decide +kernel
theorem d_Mo_blocks_21 : decode b_Mo_blocks 21 = .ok (.iconst 0, 1) := by decide +kernel
theorem d_Mo_blocks_22 : decode b_Mo_blocks 22 = .ok (.goto 9, 3) := by decide +kernel
theorem d_Mo_blocks_25 : decode b_Mo_blocks 25 = .ok (.aload_n 0, 1) := by decide +kernel
theorem d_Mo_blocks_26 : decode b_Mo_blocks 26 = .ok (.getfield 21, 3) := by decide +kernel
theorem d_Mo_blocks_29 : decode b_Mo_blocks 29 = .ok (.iload_n 1, 1) := by decide +kernel
theorem d_Mo_blocks_30 : decode b_Mo_blocks 30 = .ok (.iaload, 1) := by decide +kernel
theorem d_Mo_blocks_31 : decode b_Mo_blocks 31 = .ok (.ireturn, 1) := by decide +kernel
theorem d_Mo_stock_0 : decode b_Mo_stock 0 = .ok (.aload_n 0, 1) := by decide +kernel
theorem d_Mo_stock_1 : decode b_Mo_stock 1 = .ok (.aload_n 0, 1) := by decide +kernel
theorem d_Mo_stock_2 : decode b_Mo_stock 2 = .ok (.iload_n 1, 1) := by decide +kernel
theorem d_Mo_stock_3 : decode b_Mo_stock 3 = .ok (.invokevirtual 78, 3) := by decide +kernel
theorem d_Mo_stock_6 : decode b_Mo_stock 6 = .ok (.ifCond .ne 7, 3) := by decide +kernel
theorem d_Mo_stock_9 : decode b_Mo_stock 9 = .ok (.iconst 1, 1) := by decide +kernel
theorem d_Mo_stock_10 : decode b_Mo_stock 10 = .ok (.goto 4, 3) := by decide +kernel
theorem d_Mo_stock_13 : decode b_Mo_stock 13 = .ok (.iconst 0, 1) := by decide +kernel
theorem d_Mo_stock_14 : decode b_Mo_stock 14 = .ok (.iload_n 2, 1) := by decide +kernel
theorem d_Mo_stock_15 : decode b_Mo_stock 15 = .ok (.iconst 0, 1) := by decide +kernel
theorem d_Mo_stock_16 : decode b_Mo_stock 16 = .ok (.iconst 2, 1) := by decide +kernel
theorem d_Mo_stock_17 : decode b_Mo_stock 17 = .ok (.invokestatic 74, 3) := by decide +kernel
theorem d_Mo_stock_20 : decode b_Mo_stock 20 = .ok (.ifCond .ne 7, 3) := by decide +kernel
theorem d_Mo_stock_23 : decode b_Mo_stock 23 = .ok (.iconst 1, 1) := by decide +kernel
theorem d_Mo_stock_24 : decode b_Mo_stock 24 = .ok (.goto 4, 3) := by decide +kernel
theorem d_Mo_stock_27 : decode b_Mo_stock 27 = .ok (.iconst 0, 1) := by decide +kernel
theorem d_Mo_stock_28 : decode b_Mo_stock 28 = .ok (.iconst 0, 1) := by decide +kernel
theorem d_Mo_stock_29 : decode b_Mo_stock 29 = .ok (.invokevirtual 98, 3) := by decide +kernel
theorem d_Mo_stock_32 : decode b_Mo_stock 32 = .ok (.ifCond .eq 5, 3) := by decide +kernel
theorem d_Mo_stock_35 : decode b_Mo_stock 35 = .ok (.iconst 0, 1) := by decide +kernel
theorem d_Mo_stock_36 : decode b_Mo_stock 36 = .ok (.ireturn, 1) := by decide +kernel
theorem d_Mo_stock_37 : decode b_Mo_stock 37 = .ok (.iconst 0, 1) := by decide +kernel
theorem d_Mo_stock_38 : decode b_Mo_stock 38 = .ok (.istore_n 3, 1) := by decide +kernel
theorem d_Mo_stock_39 : decode b_Mo_stock 39 = .ok (.iconst 0, 1) := by decide +kernel
theorem d_Mo_stock_40 : decode b_Mo_stock 40 = .ok (.istore 4, 2) := by decide +kernel
theorem d_Mo_stock_42 : decode b_Mo_stock 42 = .ok (.iload 4, 2) := by decide +kernel
theorem d_Mo_stock_44 : decode b_Mo_stock 44 = .ok (.sipush 1000, 3) := by decide +kernel
theorem d_Mo_stock_47 : decode b_Mo_stock 47 = .ok (.if_icmp .ge 39, 3) := by decide +kernel
theorem d_Mo_stock_50 : decode b_Mo_stock 50 = .ok (.aload_n 0, 1) := by decide +kernel
theorem d_Mo_stock_51 : decode b_Mo_stock 51 = .ok (.getfield 37, 3) := by decide +kernel
theorem d_Mo_stock_54 : decode b_Mo_stock 54 = .ok (.iload 4, 2) := by decide +kernel
theorem d_Mo_stock_56 : decode b_Mo_stock 56 = .ok (.iaload, 1) := by decide +kernel
theorem d_Mo_stock_57 : decode b_Mo_stock 57 = .ok (.iload_n 1, 1) := by decide +kernel
theorem d_Mo_stock_58 : decode b_Mo_stock 58 = .ok (.if_icmp .ne 20, 3) := by decide +kernel
theorem d_Mo_stock_61 : decode b_Mo_stock 61 = .ok (.aload_n 0, 1) := by decide +kernel
theorem d_Mo_stock_62 : decode b_Mo_stock 62 = .ok (.getfield 43, 3) := by decide +kernel
theorem d_Mo_stock_65 : decode b_Mo_stock 65 = .ok (.iload 4, 2) := by decide +kernel
theorem d_Mo_stock_67 : decode b_Mo_stock 67 = .ok (.iaload, 1) := by decide +kernel
theorem d_Mo_stock_68 : decode b_Mo_stock 68 = .ok (.iload_n 2, 1) := by decide +kernel
theorem d_Mo_stock_69 : decode b_Mo_stock 69 = .ok (.if_icmp .ne 9, 3) := by decide +kernel
theorem d_Mo_stock_72 : decode b_Mo_stock 72 = .ok (.iload_n 3, 1) := by decide +kernel
theorem d_Mo_stock_73 : decode b_Mo_stock 73 = .ok (.iconst 1, 1) := by decide +kernel
theorem d_Mo_stock_74 : decode b_Mo_stock 74 = .ok (.iadd, 1) := by decide +kernel
theorem d_Mo_stock_75 : decode b_Mo_stock 75 = .ok (.goto 4, 3) := by decide +kernel
theorem d_Mo_stock_78 : decode b_Mo_stock 78 = .ok (.iload_n 3, 1) := by decide +kernel
theorem d_Mo_stock_79 : decode b_Mo_stock 79 = .ok (.istore_n 3, 1) := by decide +kernel
theorem d_Mo_stock_80 : decode b_Mo_stock 80 = .ok (.iinc 4 1, 3) := by decide +kernel
theorem d_Mo_stock_83 : decode b_Mo_stock 83 = .ok (.goto (-41), 3) := by decide +kernel
theorem d_Mo_stock_86 : decode b_Mo_stock 86 = .ok (.iload_n 3, 1) := by decide +kernel
theorem d_Mo_stock_87 : decode b_Mo_stock 87 = .ok (.ireturn, 1) := by decide +kernel
theorem d_Mo_used_0 : decode b_Mo_used 0 = .ok (.aload_n 0, 1) := by decide +kernel
theorem d_Mo_used_1 : decode b_Mo_used 1 = .ok (.iload_n 1, 1) := by decide +kernel
theorem d_Mo_used_2 : decode b_Mo_used 2 = .ok (.iconst 0, 1) := by decide +kernel
theorem d_Mo_used_3 : decode b_Mo_used 3 = .ok (.sipush 999, 3) := by decide +kernel
theorem d_Mo_used_6 : decode b_Mo_used 6 = .ok (.invokestatic 74, 3) := by decide +kernel
theorem d_Mo_used_9 : decode b_Mo_used 9 = .ok (.ifCond .ne 7, 3) := by decide +kernel
theorem d_Mo_used_12 : decode b_Mo_used 12 = .ok (.iconst 1, 1) := by decide +kernel
theorem d_Mo_used_13 : decode b_Mo_used 13 = .ok (.goto 4, 3) := by decide +kernel
theorem d_Mo_used_16 : decode b_Mo_used 16 = .ok (.iconst 0, 1) := by decide +kernel
theorem d_Mo_used_17 : decode b_Mo_used 17 = .ok (.iconst 0, 1) := by decide +kernel
theorem d_Mo_used_18 : decode b_Mo_used 18 = .ok (.iconst 0, 1) := by decide +kernel
theorem d_Mo_used_19 : decode b_Mo_used 19 = .ok (.invokevirtual 98, 3) := by decide +kernel
theorem d_Mo_used_22 : decode b_Mo_used 22 = .ok (.ifCond .ne 10, 3) := by decide +kernel
theorem d_Mo_used_25 : decode b_Mo_used 25 = .ok (.aload_n 0, 1) := by decide +kernel
theorem d_Mo_used_26 : decode b_Mo_used 26 = .ok (.getfield 140, 3) := by decide +kernel
theorem d_Mo_used_29 : decode b_Mo_used 29 = .ok (.ifCond .ne 16, 3) := by decide +kernel
theorem d_Mo_used_32 : decode b_Mo_used 32 = .ok (.aload_n 0, 1) := by decide +kernel
theorem d_Mo_used_33 : decode b_Mo_used 33 = .ok (.getfield 70, 3) := by decide +kernel
theorem d_Mo_used_36 : decode b_Mo_used 36 = .ok (.ifCond .le 7, 3) := by decide +kernel
theorem d_Mo_used_39 : decode b_Mo_used 39 = .ok (.iconst 0, 1) := by decide +kernel
theorem d_Mo_used_40 : decode b_Mo_used 40 = .ok (.goto 4, 3) := by decide +kernel
theorem d_Mo_used_43 : decode b_Mo_used 43 = .ok (.iconst (-1), 1) := by decide +kernel
theorem d_Mo_used_44 : decode b_Mo_used 44 = .ok (.ireturn, 1) := by decide +kernel
theorem d_Mo_used_45 : decode b_Mo_used 45 = .ok (.iconst 0, 1) := by decide +kernel
theorem d_Mo_used_46 : decode b_Mo_used 46 = .ok (.istore_n 2, 1) := by decide +kernel
theorem d_Mo_used_47 : decode b_Mo_used 47 = .ok (.iload_n 2, 1) := by decide +kernel
theorem d_Mo_used_48 : decode b_Mo_used 48 = .ok (.sipush 1000, 3) := by decide +kernel
theorem d_Mo_used_51 : decode b_Mo_used 51 = .ok (.if_icmp .ge 30, 3) := by decide +kernel
theorem d_Mo_used_54 : decode b_Mo_used 54 = .ok (.aload_n 0, 1) := by decide +kernel
theorem d_Mo_used_55 : decode b_Mo_used 55 = .ok (.getfield 46, 3) := by decide +kernel
theorem d_Mo_used_58 : decode b_Mo_used 58 = .ok (.iload_n 2, 1) := by decide +kernel
theorem d_Mo_used_59 : decode b_Mo_used 59 = .ok (.iaload, 1) := by decide +kernel
theorem d_Mo_used_60 : decode b_Mo_used 60 = .ok (.ifCond .le 15, 3) := by decide +kernel
theorem d_Mo_used_63 : decode b_Mo_used 63 = .ok (.aload_n 0, 1) := by decide +kernel
theorem d_Mo_used_64 : decode b_Mo_used 64 = .ok (.getfield 55, 3) := by decide +kernel
theorem d_Mo_used_67 : decode b_Mo_used 67 = .ok (.iload_n 2, 1) := by decide +kernel
theorem d_Mo_used_68 : decode b_Mo_used 68 = .ok (.iaload, 1) := by decide +kernel
theorem d_Mo_used_69 : decode b_Mo_used 69 = .ok (.iload_n 1, 1) := by decide +kernel
theorem d_Mo_used_70 : decode b_Mo_used 70 = .ok (.if_icmp .ne 5, 3) := by decide +kernel
theorem d_Mo_used_73 : decode b_Mo_used 73 = .ok (.iload_n 2, 1) := by decide +kernel
theorem d_Mo_used_74 : decode b_Mo_used 74 = .ok (.ireturn, 1) := by decide +kernel
theorem d_Mo_used_75 : decode b_Mo_used 75 = .ok (.iinc 2 1, 3) := by decide +kernel
theorem d_Mo_used_78 : decode b_Mo_used 78 = .ok (.goto (-31), 3) := by decide +kernel
theorem d_Mo_used_81 : decode b_Mo_used 81 = .ok (.iconst (-1), 1) := by decide +kernel
theorem d_Mo_used_82 : decode b_Mo_used 82 = .ok (.ireturn, 1) := by decide +kernel
theorem d_Mo_tear_0 : decode b_Mo_tear 0 = .ok (.aload_n 0, 1) := by decide +kernel
theorem d_Mo_tear_1 : decode b_Mo_tear 1 = .ok (.iconst 0, 1) := by decide +kernel
theorem d_Mo_tear_2 : decode b_Mo_tear 2 = .ok (.putfield 70, 3) := by decide +kernel
theorem d_Mo_tear_5 : decode b_Mo_tear 5 = .ok (.aload_n 0, 1) := by decide +kernel
theorem d_Mo_tear_6 : decode b_Mo_tear 6 = .ok (.aload_n 0, 1) := by decide +kernel
theorem d_Mo_tear_7 : decode b_Mo_tear 7 = .ok (.getfield 85, 3) := by decide +kernel
theorem d_Mo_tear_10 : decode b_Mo_tear 10 = .ok (.ifCond .ne 10, 3) := by decide +kernel
theorem d_Mo_tear_13 : decode b_Mo_tear 13 = .ok (.aload_n 0, 1) := by decide +kernel
theorem d_Mo_tear_14 : decode b_Mo_tear 14 = .ok (.getfield 89, 3) := by decide +kernel
theorem d_Mo_tear_17 : decode b_Mo_tear 17 = .ok (.ifCond .ne 7, 3) := by decide +kernel
theorem d_Mo_tear_20 : decode b_Mo_tear 20 = .ok (.iconst 1, 1) := by decide +kernel
theorem d_Mo_tear_21 : decode b_Mo_tear 21 = .ok (.goto 4, 3) := by decide +kernel
theorem d_Mo_tear_24 : decode b_Mo_tear 24 = .ok (.iconst 0, 1) := by decide +kernel
theorem d_Mo_tear_25 : decode b_Mo_tear 25 = .ok (.putfield 85, 3) := by decide +kernel
theorem d_Mo_tear_28 : decode b_Mo_tear 28 = .ok (.return_, 1) := by decide +kernel
theorem d_Mo_mount_0 : decode b_Mo_mount 0 = .ok (.aload_n 0, 1) := by decide +kernel
theorem d_Mo_mount_1 : decode b_Mo_mount 1 = .ok (.aload_n 0, 1) := by decide +kernel
theorem d_Mo_mount_2 : decode b_Mo_mount 2 = .ok (.getfield 89, 3) := by decide +kernel
theorem d_Mo_mount_5 : decode b_Mo_mount 5 = .ok (.ifCond .ne 7, 3) := by decide +kernel
theorem d_Mo_mount_8 : decode b_Mo_mount 8 = .ok (.iconst 1, 1) := by decide +kernel
theorem d_Mo_mount_9 : decode b_Mo_mount 9 = .ok (.goto 4, 3) := by decide +kernel
theorem d_Mo_mount_12 : decode b_Mo_mount 12 = .ok (.iconst 0, 1) := by decide +kernel
theorem d_Mo_mount_13 : decode b_Mo_mount 13 = .ok (.iconst 0, 1) := by decide +kernel
theorem d_Mo_mount_14 : decode b_Mo_mount 14 = .ok (.iconst 0, 1) := by decide +kernel
theorem d_Mo_mount_15 : decode b_Mo_mount 15 = .ok (.invokevirtual 98, 3) := by decide +kernel
theorem d_Mo_mount_18 : decode b_Mo_mount 18 = .ok (.ifCond .eq 5, 3) := by decide +kernel
theorem d_Mo_mount_21 : decode b_Mo_mount 21 = .ok (.iconst 0, 1) := by decide +kernel
theorem d_Mo_mount_22 : decode b_Mo_mount 22 = .ok (.ireturn, 1) := by decide +kernel
theorem d_Mo_mount_23 : decode b_Mo_mount 23 = .ok (.aload_n 0, 1) := by decide +kernel
theorem d_Mo_mount_24 : decode b_Mo_mount 24 = .ok (.iconst 0, 1) := by decide +kernel
theorem d_Mo_mount_25 : decode b_Mo_mount 25 = .ok (.putfield 89, 3) := by decide +kernel
theorem d_Mo_mount_28 : decode b_Mo_mount 28 = .ok (.aload_n 0, 1) := by decide +kernel
theorem d_Mo_mount_29 : decode b_Mo_mount 29 = .ok (.getfield 92, 3) := by decide +kernel
theorem d_Mo_mount_32 : decode b_Mo_mount 32 = .ok (.ireturn, 1) := by decide +kernel
end
section
theorem d_La_arms_0 : decode b_La_arms 0 = .ok (.aload_n 0, 1) := by decide +kernel
theorem d_La_arms_1 : decode b_La_arms 1 = .ok (.iload_n 1, 1) := by decide +kernel
theorem d_La_arms_2 : decode b_La_arms 2 = .ok (.iload_n 2, 1) := by decide +kernel
theorem d_La_arms_3 : decode b_La_arms 3 = .ok (.iload_n 3, 1) := by decide +kernel
theorem d_La_arms_4 : decode b_La_arms 4 = .ok (.iload 4, 2) := by decide +kernel
theorem d_La_arms_6 : decode b_La_arms 6 = .ok (.iload 5, 2) := by decide +kernel
theorem d_La_arms_8 : decode b_La_arms 8 = .ok (.lload 6, 2) := by decide +kernel
theorem d_La_arms_10 : decode b_La_arms 10 = .ok (.invokevirtual 7, 3) := by decide +kernel
theorem d_La_arms_13 : decode b_La_arms 13 = .ok (.goto 11, 3) := by decide +kernel
theorem d_La_arms_16 : decode b_La_arms 16 = .ok (.astore 8, 2) := by decide +kernel
theorem d_La_arms_18 : decode b_La_arms 18 = .ok (.iconst 1, 1) := by decide +kernel
theorem d_La_arms_19 : decode b_La_arms 19 = .ok (.ireturn, 1) := by decide +kernel
theorem d_La_arms_20 : decode b_La_arms 20 = .ok (.astore 8, 2) := by decide +kernel
theorem d_La_arms_22 : decode b_La_arms 22 = .ok (.iconst 2, 1) := by decide +kernel
theorem d_La_arms_23 : decode b_La_arms 23 = .ok (.ireturn, 1) := by decide +kernel
theorem d_La_arms_24 : decode b_La_arms 24 = .ok (.iconst 0, 1) := by decide +kernel
theorem d_La_arms_25 : decode b_La_arms 25 = .ok (.ireturn, 1) := by decide +kernel
theorem d_La_site_0 : decode b_La_site 0 = .ok (.aload_n 2, 1) := by decide +kernel
theorem d_La_site_1 : decode b_La_site 1 = .ok (.iconst 0, 1) := by decide +kernel
theorem d_La_site_2 : decode b_La_site 2 = .ok (.aload_n 0, 1) := by decide +kernel
theorem d_La_site_3 : decode b_La_site 3 = .ok (.iload_n 1, 1) := by decide +kernel
theorem d_La_site_4 : decode b_La_site 4 = .ok (.invokevirtual 17, 3) := by decide +kernel
theorem d_La_site_7 : decode b_La_site 7 = .ok (.i2l, 1) := by decide +kernel
theorem d_La_site_8 : decode b_La_site 8 = .ok (.lastore, 1) := by decide +kernel
theorem d_La_site_9 : decode b_La_site 9 = .ok (.goto 9, 3) := by decide +kernel
theorem d_La_site_12 : decode b_La_site 12 = .ok (.astore_n 3, 1) := by decide +kernel
theorem d_La_site_13 : decode b_La_site 13 = .ok (.iconst 1, 1) := by decide +kernel
theorem d_La_site_14 : decode b_La_site 14 = .ok (.ireturn, 1) := by decide +kernel
theorem d_La_site_15 : decode b_La_site 15 = .ok (.astore_n 3, 1) := by decide +kernel
theorem d_La_site_16 : decode b_La_site 16 = .ok (.iconst 2, 1) := by decide +kernel
theorem d_La_site_17 : decode b_La_site 17 = .ok (.ireturn, 1) := by decide +kernel
theorem d_La_site_18 : decode b_La_site 18 = .ok (.iconst 0, 1) := by decide +kernel
theorem d_La_site_19 : decode b_La_site 19 = .ok (.ireturn, 1) := by decide +kernel
theorem d_La_kits_0 : decode b_La_kits 0 = .ok (.aload 5, 2) := by decide +kernel
theorem d_La_kits_2 : decode b_La_kits 2 = .ok (.iconst 0, 1) := by decide +kernel
theorem d_La_kits_3 : decode b_La_kits 3 = .ok (.aload_n 0, 1) := by decide +kernel
theorem d_La_kits_4 : decode b_La_kits 4 = .ok (.iload_n 1, 1) := by decide +kernel
theorem d_La_kits_5 : decode b_La_kits 5 = .ok (.iload_n 2, 1) := by decide +kernel
theorem d_La_kits_6 : decode b_La_kits 6 = .ok (.iload_n 3, 1) := by decide +kernel
theorem d_La_kits_7 : decode b_La_kits 7 = .ok (.iload 4, 2) := by decide +kernel
theorem d_La_kits_9 : decode b_La_kits 9 = .ok (.invokevirtual 23, 3) := by decide +kernel
theorem d_La_kits_12 : decode b_La_kits 12 = .ok (.i2l, 1) := by decide +kernel
theorem d_La_kits_13 : decode b_La_kits 13 = .ok (.lastore, 1) := by decide +kernel
theorem d_La_kits_14 : decode b_La_kits 14 = .ok (.goto 15, 3) := by decide +kernel
theorem d_La_kits_17 : decode b_La_kits 17 = .ok (.astore 6, 2) := by decide +kernel
theorem d_La_kits_19 : decode b_La_kits 19 = .ok (.iconst 1, 1) := by decide +kernel
theorem d_La_kits_20 : decode b_La_kits 20 = .ok (.ireturn, 1) := by decide +kernel
theorem d_La_kits_21 : decode b_La_kits 21 = .ok (.astore 6, 2) := by decide +kernel
theorem d_La_kits_23 : decode b_La_kits 23 = .ok (.iconst 2, 1) := by decide +kernel
theorem d_La_kits_24 : decode b_La_kits 24 = .ok (.ireturn, 1) := by decide +kernel
theorem d_La_kits_25 : decode b_La_kits 25 = .ok (.astore 6, 2) := by decide +kernel
theorem d_La_kits_27 : decode b_La_kits 27 = .ok (.iconst 3, 1) := by decide +kernel
theorem d_La_kits_28 : decode b_La_kits 28 = .ok (.ireturn, 1) := by decide +kernel
theorem d_La_kits_29 : decode b_La_kits 29 = .ok (.iconst 0, 1) := by decide +kernel
theorem d_La_kits_30 : decode b_La_kits 30 = .ok (.ireturn, 1) := by decide +kernel
theorem d_La_allot_0 : decode b_La_allot 0 = .ok (.aload 4, 2) := by decide +kernel
theorem d_La_allot_2 : decode b_La_allot 2 = .ok (.iconst 0, 1) := by decide +kernel
theorem d_La_allot_3 : decode b_La_allot 3 = .ok (.aload_n 0, 1) := by decide +kernel
theorem d_La_allot_4 : decode b_La_allot 4 = .ok (.iload_n 1, 1) := by decide +kernel
theorem d_La_allot_5 : decode b_La_allot 5 = .ok (.iload_n 2, 1) := by decide +kernel
theorem d_La_allot_6 : decode b_La_allot 6 = .ok (.iload_n 3, 1) := by decide +kernel
theorem d_La_allot_7 : decode b_La_allot 7 = .ok (.invokevirtual 27, 3) := by decide +kernel
theorem d_La_allot_10 : decode b_La_allot 10 = .ok (.i2l, 1) := by decide +kernel
theorem d_La_allot_11 : decode b_La_allot 11 = .ok (.lastore, 1) := by decide +kernel
theorem d_La_allot_12 : decode b_La_allot 12 = .ok (.goto 11, 3) := by decide +kernel
theorem d_La_allot_15 : decode b_La_allot 15 = .ok (.astore 5, 2) := by decide +kernel
theorem d_La_allot_17 : decode b_La_allot 17 = .ok (.iconst 1, 1) := by decide +kernel
theorem d_La_allot_18 : decode b_La_allot 18 = .ok (.ireturn, 1) := by decide +kernel
theorem d_La_allot_19 : decode b_La_allot 19 = .ok (.astore 5, 2) := by decide +kernel
theorem d_La_allot_21 : decode b_La_allot 21 = .ok (.iconst 2, 1) := by decide +kernel
theorem d_La_allot_22 : decode b_La_allot 22 = .ok (.ireturn, 1) := by decide +kernel
theorem d_La_allot_23 : decode b_La_allot 23 = .ok (.iconst 0, 1) := by decide +kernel
theorem d_La_allot_24 : decode b_La_allot 24 = .ok (.ireturn, 1) := by decide +kernel
theorem d_La_reserve_0 : decode b_La_reserve 0 = .ok (.aload_n 3, 1) := by decide +kernel
theorem d_La_reserve_1 : decode b_La_reserve 1 = .ok (.iconst 0, 1) := by decide +kernel
theorem d_La_reserve_2 : decode b_La_reserve 2 = .ok (.aload_n 0, 1) := by decide +kernel
theorem d_La_reserve_3 : decode b_La_reserve 3 = .ok (.iload_n 1, 1) := by decide +kernel
theorem d_La_reserve_4 : decode b_La_reserve 4 = .ok (.iload_n 2, 1) := by decide +kernel
theorem d_La_reserve_5 : decode b_La_reserve 5 = .ok (.invokevirtual 31, 3) := by decide +kernel
theorem d_La_reserve_8 : decode b_La_reserve 8 = .ok (.i2l, 1) := by decide +kernel
theorem d_La_reserve_9 : decode b_La_reserve 9 = .ok (.lastore, 1) := by decide +kernel
theorem d_La_reserve_10 : decode b_La_reserve 10 = .ok (.goto 11, 3) := by decide +kernel
theorem d_La_reserve_13 : decode b_La_reserve 13 = .ok (.astore 4, 2) := by decide +kernel
theorem d_La_reserve_15 : decode b_La_reserve 15 = .ok (.iconst 1, 1) := by decide +kernel
theorem d_La_reserve_16 : decode b_La_reserve 16 = .ok (.ireturn, 1) := by decide +kernel
theorem d_La_reserve_17 : decode b_La_reserve 17 = .ok (.astore 4, 2) := by decide +kernel
theorem d_La_reserve_19 : decode b_La_reserve 19 = .ok (.iconst 2, 1) := by decide +kernel
theorem d_La_reserve_20 : decode b_La_reserve 20 = .ok (.ireturn, 1) := by decide +kernel
theorem d_La_reserve_21 : decode b_La_reserve 21 = .ok (.iconst 0, 1) := by decide +kernel
theorem d_La_reserve_22 : decode b_La_reserve 22 = .ok (.ireturn, 1) := by decide +kernel
theorem d_La_offline_0 : decode b_La_offline 0 = .ok (.aload 4, 2) := by decide +kernel
theorem d_La_offline_2 : decode b_La_offline 2 = .ok (.iconst 0, 1) := by decide +kernel
theorem d_La_offline_3 : decode b_La_offline 3 = .ok (.aload_n 0, 1) := by decide +kernel
theorem d_La_offline_4 : decode b_La_offline 4 = .ok (.iload_n 1, 1) := by decide +kernel
theorem d_La_offline_5 : decode b_La_offline 5 = .ok (.iload_n 2, 1) := by decide +kernel
theorem d_La_offline_6 : decode b_La_offline 6 = .ok (.iload_n 3, 1) := by decide +kernel
theorem d_La_offline_7 : decode b_La_offline 7 = .ok (.invokevirtual 35, 3) := by decide +kernel
theorem d_La_offline_10 : decode b_La_offline 10 = .ok (.i2l, 1) := by decide +kernel
theorem d_La_offline_11 : decode b_La_offline 11 = .ok (.lastore, 1) := by decide +kernel
theorem d_La_offline_12 : decode b_La_offline 12 = .ok (.goto 11, 3) := by decide +kernel
theorem d_La_offline_15 : decode b_La_offline 15 = .ok (.astore 5, 2) := by decide +kernel
theorem d_La_offline_17 : decode b_La_offline 17 = .ok (.iconst 1, 1) := by decide +kernel
theorem d_La_offline_18 : decode b_La_offline 18 = .ok (.ireturn, 1) := by decide +kernel
theorem d_La_offline_19 : decode b_La_offline 19 = .ok (.astore 5, 2) := by decide +kernel
theorem d_La_offline_21 : decode b_La_offline 21 = .ok (.iconst 2, 1) := by decide +kernel
theorem d_La_offline_22 : decode b_La_offline 22 = .ok (.ireturn, 1) := by decide +kernel
theorem d_La_offline_23 : decode b_La_offline 23 = .ok (.iconst 0, 1) := by decide +kernel
theorem d_La_offline_24 : decode b_La_offline 24 = .ok (.ireturn, 1) := by decide +kernel
theorem d_La_report_0 : decode b_La_report 0 = .ok (.aload_n 2, 1) := by decide +kernel
theorem d_La_report_1 : decode b_La_report 1 = .ok (.iconst 0, 1) := by decide +kernel
theorem d_La_report_2 : decode b_La_report 2 = .ok (.aload_n 0, 1) := by decide +kernel
theorem d_La_report_3 : decode b_La_report 3 = .ok (.iload_n 1, 1) := by decide +kernel
theorem d_La_report_4 : decode b_La_report 4 = .ok (.invokevirtual 38, 3) := by decide +kernel
theorem d_La_report_7 : decode b_La_report 7 = .ok (.i2l, 1) := by decide +kernel
theorem d_La_report_8 : decode b_La_report 8 = .ok (.lastore, 1) := by decide +kernel
theorem d_La_report_9 : decode b_La_report 9 = .ok (.goto 6, 3) := by decide +kernel
theorem d_La_report_12 : decode b_La_report 12 = .ok (.astore_n 3, 1) := by decide +kernel
theorem d_La_report_13 : decode b_La_report 13 = .ok (.iconst 1, 1) := by decide +kernel
theorem d_La_report_14 : decode b_La_report 14 = .ok (.ireturn, 1) := by decide +kernel
theorem d_La_report_15 : decode b_La_report 15 = .ok (.iconst 0, 1) := by decide +kernel
theorem d_La_report_16 : decode b_La_report 16 = .ok (.ireturn, 1) := by decide +kernel
theorem d_La_close_0 : decode b_La_close 0 = .ok (.aload_n 2, 1) := by decide +kernel
theorem d_La_close_1 : decode b_La_close 1 = .ok (.iconst 0, 1) := by decide +kernel
theorem d_La_close_2 : decode b_La_close 2 = .ok (.aload_n 0, 1) := by decide +kernel
theorem d_La_close_3 : decode b_La_close 3 = .ok (.iload_n 1, 1) := by decide +kernel
theorem d_La_close_4 : decode b_La_close 4 = .ok (.invokevirtual 41, 3) := by decide +kernel
theorem d_La_close_7 : decode b_La_close 7 = .ok (.i2l, 1) := by decide +kernel
theorem d_La_close_8 : decode b_La_close 8 = .ok (.lastore, 1) := by decide +kernel
theorem d_La_close_9 : decode b_La_close 9 = .ok (.goto 6, 3) := by decide +kernel
theorem d_La_close_12 : decode b_La_close 12 = .ok (.astore_n 3, 1) := by decide +kernel
theorem d_La_close_13 : decode b_La_close 13 = .ok (.iconst 1, 1) := by decide +kernel
theorem d_La_close_14 : decode b_La_close 14 = .ok (.ireturn, 1) := by decide +kernel
theorem d_La_close_15 : decode b_La_close 15 = .ok (.iconst 0, 1) := by decide +kernel
theorem d_La_close_16 : decode b_La_close 16 = .ok (.ireturn, 1) := by decide +kernel
theorem d_La_key_0 : decode b_La_key 0 = .ok (.aload 4, 2) := by decide +kernel
theorem d_La_key_2 : decode b_La_key 2 = .ok (.iconst 0, 1) := by decide +kernel
theorem d_La_key_3 : decode b_La_key 3 = .ok (.aload_n 0, 1) := by decide +kernel
theorem d_La_key_4 : decode b_La_key 4 = .ok (.iload_n 1, 1) := by decide +kernel
theorem d_La_key_5 : decode b_La_key 5 = .ok (.iload_n 2, 1) := by decide +kernel
theorem d_La_key_6 : decode b_La_key 6 = .ok (.iload_n 3, 1) := by decide +kernel
theorem d_La_key_7 : decode b_La_key 7 = .ok (.invokevirtual 44, 3) := by decide +kernel
theorem d_La_key_10 : decode b_La_key 10 = .ok (.i2l, 1) := by decide +kernel
theorem d_La_key_11 : decode b_La_key 11 = .ok (.lastore, 1) := by decide +kernel
theorem d_La_key_12 : decode b_La_key 12 = .ok (.goto 7, 3) := by decide +kernel
theorem d_La_key_15 : decode b_La_key 15 = .ok (.astore 5, 2) := by decide +kernel
theorem d_La_key_17 : decode b_La_key 17 = .ok (.iconst 1, 1) := by decide +kernel
theorem d_La_key_18 : decode b_La_key 18 = .ok (.ireturn, 1) := by decide +kernel
theorem d_La_key_19 : decode b_La_key 19 = .ok (.iconst 0, 1) := by decide +kernel
theorem d_La_key_20 : decode b_La_key 20 = .ok (.ireturn, 1) := by decide +kernel
theorem d_La_arm_0 : decode b_La_arm 0 = .ok (.aload_n 3, 1) := by decide +kernel
theorem d_La_arm_1 : decode b_La_arm 1 = .ok (.iconst 0, 1) := by decide +kernel
theorem d_La_arm_2 : decode b_La_arm 2 = .ok (.aload_n 0, 1) := by decide +kernel
theorem d_La_arm_3 : decode b_La_arm 3 = .ok (.iload_n 1, 1) := by decide +kernel
theorem d_La_arm_4 : decode b_La_arm 4 = .ok (.iload_n 2, 1) := by decide +kernel
theorem d_La_arm_5 : decode b_La_arm 5 = .ok (.invokevirtual 47, 3) := by decide +kernel
theorem d_La_arm_8 : decode b_La_arm 8 = .ok (.i2l, 1) := by decide +kernel
theorem d_La_arm_9 : decode b_La_arm 9 = .ok (.lastore, 1) := by decide +kernel
theorem d_La_arm_10 : decode b_La_arm 10 = .ok (.goto 7, 3) := by decide +kernel
theorem d_La_arm_13 : decode b_La_arm 13 = .ok (.astore 4, 2) := by decide +kernel
theorem d_La_arm_15 : decode b_La_arm 15 = .ok (.iconst 1, 1) := by decide +kernel
theorem d_La_arm_16 : decode b_La_arm 16 = .ok (.ireturn, 1) := by decide +kernel
theorem d_La_arm_17 : decode b_La_arm 17 = .ok (.iconst 0, 1) := by decide +kernel
theorem d_La_arm_18 : decode b_La_arm 18 = .ok (.ireturn, 1) := by decide +kernel
theorem d_La_open_0 : decode b_La_open 0 = .ok (.aload_n 3, 1) := by decide +kernel
theorem d_La_open_1 : decode b_La_open 1 = .ok (.iconst 0, 1) := by decide +kernel
theorem d_La_open_2 : decode b_La_open 2 = .ok (.aload_n 0, 1) := by decide +kernel
theorem d_La_open_3 : decode b_La_open 3 = .ok (.iload_n 1, 1) := by decide +kernel
theorem d_La_open_4 : decode b_La_open 4 = .ok (.iload_n 2, 1) := by decide +kernel
theorem d_La_open_5 : decode b_La_open 5 = .ok (.invokevirtual 50, 3) := by decide +kernel
theorem d_La_open_8 : decode b_La_open 8 = .ok (.i2l, 1) := by decide +kernel
theorem d_La_open_9 : decode b_La_open 9 = .ok (.lastore, 1) := by decide +kernel
theorem d_La_open_10 : decode b_La_open 10 = .ok (.goto 7, 3) := by decide +kernel
theorem d_La_open_13 : decode b_La_open 13 = .ok (.astore 4, 2) := by decide +kernel
theorem d_La_open_15 : decode b_La_open 15 = .ok (.iconst 1, 1) := by decide +kernel
theorem d_La_open_16 : decode b_La_open 16 = .ok (.ireturn, 1) := by decide +kernel
theorem d_La_open_17 : decode b_La_open 17 = .ok (.iconst 0, 1) := by decide +kernel
theorem d_La_open_18 : decode b_La_open 18 = .ok (.ireturn, 1) := by decide +kernel
theorem d_La_count_0 : decode b_La_count 0 = .ok (.aload_n 3, 1) := by decide +kernel
theorem d_La_count_1 : decode b_La_count 1 = .ok (.iconst 0, 1) := by decide +kernel
theorem d_La_count_2 : decode b_La_count 2 = .ok (.aload_n 0, 1) := by decide +kernel
theorem d_La_count_3 : decode b_La_count 3 = .ok (.iload_n 1, 1) := by decide +kernel
theorem d_La_count_4 : decode b_La_count 4 = .ok (.iload_n 2, 1) := by decide +kernel
theorem d_La_count_5 : decode b_La_count 5 = .ok (.invokevirtual 53, 3) := by decide +kernel
theorem d_La_count_8 : decode b_La_count 8 = .ok (.i2l, 1) := by decide +kernel
theorem d_La_count_9 : decode b_La_count 9 = .ok (.lastore, 1) := by decide +kernel
theorem d_La_count_10 : decode b_La_count 10 = .ok (.goto 11, 3) := by decide +kernel
theorem d_La_count_13 : decode b_La_count 13 = .ok (.astore 4, 2) := by decide +kernel
theorem d_La_count_15 : decode b_La_count 15 = .ok (.iconst 1, 1) := by decide +kernel
theorem d_La_count_16 : decode b_La_count 16 = .ok (.ireturn, 1) := by decide +kernel
theorem d_La_count_17 : decode b_La_count 17 = .ok (.astore 4, 2) := by decide +kernel
theorem d_La_count_19 : decode b_La_count 19 = .ok (.iconst 2, 1) := by decide +kernel
theorem d_La_count_20 : decode b_La_count 20 = .ok (.ireturn, 1) := by decide +kernel
theorem d_La_count_21 : decode b_La_count 21 = .ok (.iconst 0, 1) := by decide +kernel
theorem d_La_count_22 : decode b_La_count 22 = .ok (.ireturn, 1) := by decide +kernel
theorem d_La_spread_0 : decode b_La_spread 0 = .ok (.aload_n 2, 1) := by decide +kernel
theorem d_La_spread_1 : decode b_La_spread 1 = .ok (.iconst 0, 1) := by decide +kernel
theorem d_La_spread_2 : decode b_La_spread 2 = .ok (.aload_n 0, 1) := by decide +kernel
theorem d_La_spread_3 : decode b_La_spread 3 = .ok (.iload_n 1, 1) := by decide +kernel
theorem d_La_spread_4 : decode b_La_spread 4 = .ok (.invokevirtual 56, 3) := by decide +kernel
theorem d_La_spread_7 : decode b_La_spread 7 = .ok (.i2l, 1) := by decide +kernel
theorem d_La_spread_8 : decode b_La_spread 8 = .ok (.lastore, 1) := by decide +kernel
theorem d_La_spread_9 : decode b_La_spread 9 = .ok (.goto 9, 3) := by decide +kernel
theorem d_La_spread_12 : decode b_La_spread 12 = .ok (.astore_n 3, 1) := by decide +kernel
theorem d_La_spread_13 : decode b_La_spread 13 = .ok (.iconst 1, 1) := by decide +kernel
theorem d_La_spread_14 : decode b_La_spread 14 = .ok (.ireturn, 1) := by decide +kernel
theorem d_La_spread_15 : decode b_La_spread 15 = .ok (.astore_n 3, 1) := by decide +kernel
theorem d_La_spread_16 : decode b_La_spread 16 = .ok (.iconst 2, 1) := by decide +kernel
theorem d_La_spread_17 : decode b_La_spread 17 = .ok (.ireturn, 1) := by decide +kernel
theorem d_La_spread_18 : decode b_La_spread 18 = .ok (.iconst 0, 1) := by decide +kernel
theorem d_La_spread_19 : decode b_La_spread 19 = .ok (.ireturn, 1) := by decide +kernel
theorem d_La_entry_0 : decode b_La_entry 0 = .ok (.aload_n 3, 1) := by decide +kernel
theorem d_La_entry_1 : decode b_La_entry 1 = .ok (.iconst 0, 1) := by decide +kernel
theorem d_La_entry_2 : decode b_La_entry 2 = .ok (.aload_n 0, 1) := by decide +kernel
theorem d_La_entry_3 : decode b_La_entry 3 = .ok (.iload_n 1, 1) := by decide +kernel
theorem d_La_entry_4 : decode b_La_entry 4 = .ok (.iload_n 2, 1) := by decide +kernel
theorem d_La_entry_5 : decode b_La_entry 5 = .ok (.invokevirtual 59, 3) := by decide +kernel
theorem d_La_entry_8 : decode b_La_entry 8 = .ok (.i2l, 1) := by decide +kernel
theorem d_La_entry_9 : decode b_La_entry 9 = .ok (.lastore, 1) := by decide +kernel
theorem d_La_entry_10 : decode b_La_entry 10 = .ok (.goto 7, 3) := by decide +kernel
theorem d_La_entry_13 : decode b_La_entry 13 = .ok (.astore 4, 2) := by decide +kernel
theorem d_La_entry_15 : decode b_La_entry 15 = .ok (.iconst 1, 1) := by decide +kernel
theorem d_La_entry_16 : decode b_La_entry 16 = .ok (.ireturn, 1) := by decide +kernel
theorem d_La_entry_17 : decode b_La_entry 17 = .ok (.iconst 0, 1) := by decide +kernel
theorem d_La_entry_18 : decode b_La_entry 18 = .ok (.ireturn, 1) := by decide +kernel
theorem d_La_blocks_0 : decode b_La_blocks 0 = .ok (.aload_n 2, 1) := by decide +kernel
theorem d_La_blocks_1 : decode b_La_blocks 1 = .ok (.iconst 0, 1) := by decide +kernel
theorem d_La_blocks_2 : decode b_La_blocks 2 = .ok (.aload_n 0, 1) := by decide +kernel
theorem d_La_blocks_3 : decode b_La_blocks 3 = .ok (.iload_n 1, 1) := by decide +kernel
theorem d_La_blocks_4 : decode b_La_blocks 4 = .ok (.invokevirtual 62, 3) := by decide +kernel
theorem d_La_blocks_7 : decode b_La_blocks 7 = .ok (.i2l, 1) := by decide +kernel
theorem d_La_blocks_8 : decode b_La_blocks 8 = .ok (.lastore, 1) := by decide +kernel
theorem d_La_blocks_9 : decode b_La_blocks 9 = .ok (.goto 6, 3) := by decide +kernel
theorem d_La_blocks_12 : decode b_La_blocks 12 = .ok (.astore_n 3, 1) := by decide +kernel
theorem d_La_blocks_13 : decode b_La_blocks 13 = .ok (.iconst 1, 1) := by decide +kernel
theorem d_La_blocks_14 : decode b_La_blocks 14 = .ok (.ireturn, 1) := by decide +kernel
theorem d_La_blocks_15 : decode b_La_blocks 15 = .ok (.iconst 0, 1) := by decide +kernel
theorem d_La_blocks_16 : decode b_La_blocks 16 = .ok (.ireturn, 1) := by decide +kernel
theorem d_La_stock_0 : decode b_La_stock 0 = .ok (.aload_n 3, 1) := by decide +kernel
theorem d_La_stock_1 : decode b_La_stock 1 = .ok (.iconst 0, 1) := by decide +kernel
theorem d_La_stock_2 : decode b_La_stock 2 = .ok (.aload_n 0, 1) := by decide +kernel
theorem d_La_stock_3 : decode b_La_stock 3 = .ok (.iload_n 1, 1) := by decide +kernel
theorem d_La_stock_4 : decode b_La_stock 4 = .ok (.iload_n 2, 1) := by decide +kernel
theorem d_La_stock_5 : decode b_La_stock 5 = .ok (.invokevirtual 65, 3) := by decide +kernel
theorem d_La_stock_8 : decode b_La_stock 8 = .ok (.i2l, 1) := by decide +kernel
theorem d_La_stock_9 : decode b_La_stock 9 = .ok (.lastore, 1) := by decide +kernel
theorem d_La_stock_10 : decode b_La_stock 10 = .ok (.goto 11, 3) := by decide +kernel
theorem d_La_stock_13 : decode b_La_stock 13 = .ok (.astore 4, 2) := by decide +kernel
theorem d_La_stock_15 : decode b_La_stock 15 = .ok (.iconst 1, 1) := by decide +kernel
theorem d_La_stock_16 : decode b_La_stock 16 = .ok (.ireturn, 1) := by decide +kernel
theorem d_La_stock_17 : decode b_La_stock 17 = .ok (.astore 4, 2) := by decide +kernel
theorem d_La_stock_19 : decode b_La_stock 19 = .ok (.iconst 2, 1) := by decide +kernel
theorem d_La_stock_20 : decode b_La_stock 20 = .ok (.ireturn, 1) := by decide +kernel
theorem d_La_stock_21 : decode b_La_stock 21 = .ok (.iconst 0, 1) := by decide +kernel
theorem d_La_stock_22 : decode b_La_stock 22 = .ok (.ireturn, 1) := by decide +kernel
theorem d_La_used_0 : decode b_La_used 0 = .ok (.aload_n 2, 1) := by decide +kernel
theorem d_La_used_1 : decode b_La_used 1 = .ok (.iconst 0, 1) := by decide +kernel
theorem d_La_used_2 : decode b_La_used 2 = .ok (.aload_n 0, 1) := by decide +kernel
theorem d_La_used_3 : decode b_La_used 3 = .ok (.iload_n 1, 1) := by decide +kernel
theorem d_La_used_4 : decode b_La_used 4 = .ok (.invokevirtual 68, 3) := by decide +kernel
theorem d_La_used_7 : decode b_La_used 7 = .ok (.i2l, 1) := by decide +kernel
theorem d_La_used_8 : decode b_La_used 8 = .ok (.lastore, 1) := by decide +kernel
theorem d_La_used_9 : decode b_La_used 9 = .ok (.goto 6, 3) := by decide +kernel
theorem d_La_used_12 : decode b_La_used 12 = .ok (.astore_n 3, 1) := by decide +kernel
theorem d_La_used_13 : decode b_La_used 13 = .ok (.iconst 1, 1) := by decide +kernel
theorem d_La_used_14 : decode b_La_used 14 = .ok (.ireturn, 1) := by decide +kernel
theorem d_La_used_15 : decode b_La_used 15 = .ok (.iconst 0, 1) := by decide +kernel
theorem d_La_used_16 : decode b_La_used 16 = .ok (.ireturn, 1) := by decide +kernel
theorem d_La_mount_0 : decode b_La_mount 0 = .ok (.aload_n 1, 1) := by decide +kernel
theorem d_La_mount_1 : decode b_La_mount 1 = .ok (.iconst 0, 1) := by decide +kernel
theorem d_La_mount_2 : decode b_La_mount 2 = .ok (.aload_n 0, 1) := by decide +kernel
theorem d_La_mount_3 : decode b_La_mount 3 = .ok (.invokevirtual 71, 3) := by decide +kernel
theorem d_La_mount_6 : decode b_La_mount 6 = .ok (.i2l, 1) := by decide +kernel
theorem d_La_mount_7 : decode b_La_mount 7 = .ok (.lastore, 1) := by decide +kernel
theorem d_La_mount_8 : decode b_La_mount 8 = .ok (.goto 6, 3) := by decide +kernel
theorem d_La_mount_11 : decode b_La_mount 11 = .ok (.astore_n 2, 1) := by decide +kernel
theorem d_La_mount_12 : decode b_La_mount 12 = .ok (.iconst 1, 1) := by decide +kernel
theorem d_La_mount_13 : decode b_La_mount 13 = .ok (.ireturn, 1) := by decide +kernel
theorem d_La_mount_14 : decode b_La_mount 14 = .ok (.iconst 0, 1) := by decide +kernel
theorem d_La_mount_15 : decode b_La_mount 15 = .ok (.ireturn, 1) := by decide +kernel
theorem d_La_law_0 : decode b_La_law 0 = .ok (.new 8, 3) := by decide +kernel
theorem d_La_law_3 : decode b_La_law 3 = .ok (.dup, 1) := by decide +kernel
theorem d_La_law_4 : decode b_La_law 4 = .ok (.invokespecial 75, 3) := by decide +kernel
theorem d_La_law_7 : decode b_La_law 7 = .ok (.astore_n 1, 1) := by decide +kernel
theorem d_La_law_8 : decode b_La_law 8 = .ok (.new 76, 3) := by decide +kernel
theorem d_La_law_11 : decode b_La_law 11 = .ok (.dup, 1) := by decide +kernel
theorem d_La_law_12 : decode b_La_law 12 = .ok (.invokespecial 78, 3) := by decide +kernel
theorem d_La_law_15 : decode b_La_law 15 = .ok (.astore_n 2, 1) := by decide +kernel
theorem d_La_law_16 : decode b_La_law 16 = .ok (.iconst 1, 1) := by decide +kernel
theorem d_La_law_17 : decode b_La_law 17 = .ok (.newarray .long, 2) := by decide +kernel
theorem d_La_law_19 : decode b_La_law 19 = .ok (.astore_n 3, 1) := by decide +kernel
theorem d_La_law_20 : decode b_La_law 20 = .ok (.iconst 0, 1) := by decide +kernel
theorem d_La_law_21 : decode b_La_law 21 = .ok (.istore 4, 2) := by decide +kernel
theorem d_La_law_23 : decode b_La_law 23 = .ok (.iload 4, 2) := by decide +kernel
theorem d_La_law_25 : decode b_La_law 25 = .ok (.aload_n 0, 1) := by decide +kernel
theorem d_La_law_26 : decode b_La_law 26 = .ok (.arraylength, 1) := by decide +kernel
theorem d_La_law_27 : decode b_La_law 27 = .ok (.bipush 8, 2) := by decide +kernel
theorem d_La_law_29 : decode b_La_law 29 = .ok (.isub, 1) := by decide +kernel
theorem d_La_law_30 : decode b_La_law 30 = .ok (.if_icmp .gt 1371, 3) := by decide +kernel
theorem d_La_law_33 : decode b_La_law 33 = .ok (.aload_n 0, 1) := by decide +kernel
theorem d_La_law_34 : decode b_La_law 34 = .ok (.iload 4, 2) := by decide +kernel
theorem d_La_law_36 : decode b_La_law 36 = .ok (.iaload, 1) := by decide +kernel
theorem d_La_law_37 : decode b_La_law 37 = .ok (.bipush 31, 2) := by decide +kernel
theorem d_La_law_39 : decode b_La_law 39 = .ok (.iand, 1) := by decide +kernel
theorem d_La_law_40 : decode b_La_law 40 = .ok (.tableswitch 1355 0 18 #[92, 224, 280, 372, 452, 520, 600, 656, 712, 792, 860, 928, 996, 1052, 1120, 1176, 1244, 1300, 1311], 92) := by decide +kernel
theorem d_La_law_132 : decode b_La_law 132 = .ok (.aload_n 1, 1) := by decide +kernel
theorem d_La_law_133 : decode b_La_law 133 = .ok (.aload_n 0, 1) := by decide +kernel
theorem d_La_law_134 : decode b_La_law 134 = .ok (.iload 4, 2) := by decide +kernel
theorem d_La_law_136 : decode b_La_law 136 = .ok (.iconst 1, 1) := by decide +kernel
theorem d_La_law_137 : decode b_La_law 137 = .ok (.iadd, 1) := by decide +kernel
theorem d_La_law_138 : decode b_La_law 138 = .ok (.iaload, 1) := by decide +kernel
theorem d_La_law_139 : decode b_La_law 139 = .ok (.aload_n 0, 1) := by decide +kernel
theorem d_La_law_140 : decode b_La_law 140 = .ok (.iload 4, 2) := by decide +kernel
theorem d_La_law_142 : decode b_La_law 142 = .ok (.iconst 2, 1) := by decide +kernel
theorem d_La_law_143 : decode b_La_law 143 = .ok (.iadd, 1) := by decide +kernel
theorem d_La_law_144 : decode b_La_law 144 = .ok (.iaload, 1) := by decide +kernel
theorem d_La_law_145 : decode b_La_law 145 = .ok (.aload_n 0, 1) := by decide +kernel
theorem d_La_law_146 : decode b_La_law 146 = .ok (.iload 4, 2) := by decide +kernel
theorem d_La_law_148 : decode b_La_law 148 = .ok (.iconst 3, 1) := by decide +kernel
theorem d_La_law_149 : decode b_La_law 149 = .ok (.iadd, 1) := by decide +kernel
theorem d_La_law_150 : decode b_La_law 150 = .ok (.iaload, 1) := by decide +kernel
theorem d_La_law_151 : decode b_La_law 151 = .ok (.aload_n 0, 1) := by decide +kernel
theorem d_La_law_152 : decode b_La_law 152 = .ok (.iload 4, 2) := by decide +kernel
theorem d_La_law_154 : decode b_La_law 154 = .ok (.iconst 4, 1) := by decide +kernel
theorem d_La_law_155 : decode b_La_law 155 = .ok (.iadd, 1) := by decide +kernel
theorem d_La_law_156 : decode b_La_law 156 = .ok (.iaload, 1) := by decide +kernel
theorem d_La_law_157 : decode b_La_law 157 = .ok (.aload_n 0, 1) := by decide +kernel
theorem d_La_law_158 : decode b_La_law 158 = .ok (.iload 4, 2) := by decide +kernel
theorem d_La_law_160 : decode b_La_law 160 = .ok (.iconst 5, 1) := by decide +kernel
theorem d_La_law_161 : decode b_La_law 161 = .ok (.iadd, 1) := by decide +kernel
theorem d_La_law_162 : decode b_La_law 162 = .ok (.iaload, 1) := by decide +kernel
theorem d_La_law_163 : decode b_La_law 163 = .ok (.aload_n 0, 1) := by decide +kernel
theorem d_La_law_164 : decode b_La_law 164 = .ok (.iload 4, 2) := by decide +kernel
theorem d_La_law_166 : decode b_La_law 166 = .ok (.bipush 6, 2) := by decide +kernel
theorem d_La_law_168 : decode b_La_law 168 = .ok (.iadd, 1) := by decide +kernel
theorem d_La_law_169 : decode b_La_law 169 = .ok (.iaload, 1) := by decide +kernel
theorem d_La_law_170 : decode b_La_law 170 = .ok (.i2l, 1) := by decide +kernel
theorem d_La_law_171 : decode b_La_law 171 = .ok (.bipush 32, 2) := by decide +kernel
theorem d_La_law_173 : decode b_La_law 173 = .ok (.lshl, 1) := by decide +kernel
theorem d_La_law_174 : decode b_La_law 174 = .ok (.aload_n 0, 1) := by decide +kernel
theorem d_La_law_175 : decode b_La_law 175 = .ok (.iload 4, 2) := by decide +kernel
theorem d_La_law_177 : decode b_La_law 177 = .ok (.bipush 7, 2) := by decide +kernel
theorem d_La_law_179 : decode b_La_law 179 = .ok (.iadd, 1) := by decide +kernel
theorem d_La_law_180 : decode b_La_law 180 = .ok (.iaload, 1) := by decide +kernel
theorem d_La_law_181 : decode b_La_law 181 = .ok (.i2l, 1) := by decide +kernel
theorem d_La_law_182 : decode b_La_law 182 = .ok (.ldc2_w 79, 3) := by decide +kernel
theorem d_La_law_185 : decode b_La_law 185 = .ok (.land, 1) := by decide +kernel
theorem d_La_law_186 : decode b_La_law 186 = .ok (.lor, 1) := by decide +kernel
theorem d_La_law_187 : decode b_La_law 187 = .ok (.invokestatic 81, 3) := by decide +kernel
theorem d_La_law_190 : decode b_La_law 190 = .ok (.istore 5, 2) := by decide +kernel
theorem d_La_law_192 : decode b_La_law 192 = .ok (.aload_n 2, 1) := by decide +kernel
theorem d_La_law_193 : decode b_La_law 193 = .ok (.aload_n 0, 1) := by decide +kernel
theorem d_La_law_194 : decode b_La_law 194 = .ok (.iload 4, 2) := by decide +kernel
theorem d_La_law_196 : decode b_La_law 196 = .ok (.iconst 1, 1) := by decide +kernel
theorem d_La_law_197 : decode b_La_law 197 = .ok (.iadd, 1) := by decide +kernel
theorem d_La_law_198 : decode b_La_law 198 = .ok (.iaload, 1) := by decide +kernel
theorem d_La_law_199 : decode b_La_law 199 = .ok (.aload_n 0, 1) := by decide +kernel
theorem d_La_law_200 : decode b_La_law 200 = .ok (.iload 4, 2) := by decide +kernel
theorem d_La_law_202 : decode b_La_law 202 = .ok (.iconst 2, 1) := by decide +kernel
theorem d_La_law_203 : decode b_La_law 203 = .ok (.iadd, 1) := by decide +kernel
theorem d_La_law_204 : decode b_La_law 204 = .ok (.iaload, 1) := by decide +kernel
theorem d_La_law_205 : decode b_La_law 205 = .ok (.aload_n 0, 1) := by decide +kernel
theorem d_La_law_206 : decode b_La_law 206 = .ok (.iload 4, 2) := by decide +kernel
theorem d_La_law_208 : decode b_La_law 208 = .ok (.iconst 3, 1) := by decide +kernel
theorem d_La_law_209 : decode b_La_law 209 = .ok (.iadd, 1) := by decide +kernel
theorem d_La_law_210 : decode b_La_law 210 = .ok (.iaload, 1) := by decide +kernel
theorem d_La_law_211 : decode b_La_law 211 = .ok (.aload_n 0, 1) := by decide +kernel
theorem d_La_law_212 : decode b_La_law 212 = .ok (.iload 4, 2) := by decide +kernel
theorem d_La_law_214 : decode b_La_law 214 = .ok (.iconst 4, 1) := by decide +kernel
theorem d_La_law_215 : decode b_La_law 215 = .ok (.iadd, 1) := by decide +kernel
theorem d_La_law_216 : decode b_La_law 216 = .ok (.iaload, 1) := by decide +kernel
theorem d_La_law_217 : decode b_La_law 217 = .ok (.aload_n 0, 1) := by decide +kernel
theorem d_La_law_218 : decode b_La_law 218 = .ok (.iload 4, 2) := by decide +kernel
theorem d_La_law_220 : decode b_La_law 220 = .ok (.iconst 5, 1) := by decide +kernel
theorem d_La_law_221 : decode b_La_law 221 = .ok (.iadd, 1) := by decide +kernel
theorem d_La_law_222 : decode b_La_law 222 = .ok (.iaload, 1) := by decide +kernel
theorem d_La_law_223 : decode b_La_law 223 = .ok (.aload_n 0, 1) := by decide +kernel
theorem d_La_law_224 : decode b_La_law 224 = .ok (.iload 4, 2) := by decide +kernel
theorem d_La_law_226 : decode b_La_law 226 = .ok (.bipush 6, 2) := by decide +kernel
theorem d_La_law_228 : decode b_La_law 228 = .ok (.iadd, 1) := by decide +kernel
theorem d_La_law_229 : decode b_La_law 229 = .ok (.iaload, 1) := by decide +kernel
theorem d_La_law_230 : decode b_La_law 230 = .ok (.i2l, 1) := by decide +kernel
theorem d_La_law_231 : decode b_La_law 231 = .ok (.bipush 32, 2) := by decide +kernel
theorem d_La_law_233 : decode b_La_law 233 = .ok (.lshl, 1) := by decide +kernel
theorem d_La_law_234 : decode b_La_law 234 = .ok (.aload_n 0, 1) := by decide +kernel
theorem d_La_law_235 : decode b_La_law 235 = .ok (.iload 4, 2) := by decide +kernel
theorem d_La_law_237 : decode b_La_law 237 = .ok (.bipush 7, 2) := by decide +kernel
theorem d_La_law_239 : decode b_La_law 239 = .ok (.iadd, 1) := by decide +kernel
theorem d_La_law_240 : decode b_La_law 240 = .ok (.iaload, 1) := by decide +kernel
theorem d_La_law_241 : decode b_La_law 241 = .ok (.i2l, 1) := by decide +kernel
theorem d_La_law_242 : decode b_La_law 242 = .ok (.ldc2_w 79, 3) := by decide +kernel
theorem d_La_law_245 : decode b_La_law 245 = .ok (.land, 1) := by decide +kernel
theorem d_La_law_246 : decode b_La_law 246 = .ok (.lor, 1) := by decide +kernel
theorem d_La_law_247 : decode b_La_law 247 = .ok (.invokevirtual 86, 3) := by decide +kernel
theorem d_La_law_250 : decode b_La_law 250 = .ok (.aload_n 2, 1) := by decide +kernel
theorem d_La_law_251 : decode b_La_law 251 = .ok (.invokevirtual 87, 3) := by decide +kernel
theorem d_La_law_254 : decode b_La_law 254 = .ok (.iload 5, 2) := by decide +kernel
theorem d_La_law_256 : decode b_La_law 256 = .ok (.if_icmp .eq 5, 3) := by decide +kernel
theorem d_La_law_259 : decode b_La_law 259 = .ok (.iconst 0, 1) := by decide +kernel
theorem d_La_law_260 : decode b_La_law 260 = .ok (.ireturn, 1) := by decide +kernel
theorem d_La_law_261 : decode b_La_law 261 = .ok (.goto 1134, 3) := by decide +kernel
theorem d_La_law_264 : decode b_La_law 264 = .ok (.aload_n 1, 1) := by decide +kernel
theorem d_La_law_265 : decode b_La_law 265 = .ok (.aload_n 0, 1) := by decide +kernel
theorem d_La_law_266 : decode b_La_law 266 = .ok (.iload 4, 2) := by decide +kernel
theorem d_La_law_268 : decode b_La_law 268 = .ok (.iconst 1, 1) := by decide +kernel
theorem d_La_law_269 : decode b_La_law 269 = .ok (.iadd, 1) := by decide +kernel
theorem d_La_law_270 : decode b_La_law 270 = .ok (.iaload, 1) := by decide +kernel
theorem d_La_law_271 : decode b_La_law 271 = .ok (.aload_n 3, 1) := by decide +kernel
theorem d_La_law_272 : decode b_La_law 272 = .ok (.invokestatic 90, 3) := by decide +kernel
theorem d_La_law_275 : decode b_La_law 275 = .ok (.istore 5, 2) := by decide +kernel
theorem d_La_law_277 : decode b_La_law 277 = .ok (.aload_n 2, 1) := by decide +kernel
theorem d_La_law_278 : decode b_La_law 278 = .ok (.aload_n 0, 1) := by decide +kernel
theorem d_La_law_279 : decode b_La_law 279 = .ok (.iload 4, 2) := by decide +kernel
theorem d_La_law_281 : decode b_La_law 281 = .ok (.iconst 1, 1) := by decide +kernel
theorem d_La_law_282 : decode b_La_law 282 = .ok (.iadd, 1) := by decide +kernel
theorem d_La_law_283 : decode b_La_law 283 = .ok (.iaload, 1) := by decide +kernel
theorem d_La_law_284 : decode b_La_law 284 = .ok (.invokevirtual 93, 3) := by decide +kernel
theorem d_La_law_287 : decode b_La_law 287 = .ok (.istore 6, 2) := by decide +kernel
theorem d_La_law_289 : decode b_La_law 289 = .ok (.aload_n 2, 1) := by decide +kernel
theorem d_La_law_290 : decode b_La_law 290 = .ok (.invokevirtual 87, 3) := by decide +kernel
theorem d_La_law_293 : decode b_La_law 293 = .ok (.iload 5, 2) := by decide +kernel
theorem d_La_law_295 : decode b_La_law 295 = .ok (.if_icmp .eq 5, 3) := by decide +kernel
theorem d_La_law_298 : decode b_La_law 298 = .ok (.iconst 0, 1) := by decide +kernel
theorem d_La_law_299 : decode b_La_law 299 = .ok (.ireturn, 1) := by decide +kernel
theorem d_La_law_300 : decode b_La_law 300 = .ok (.iload 5, 2) := by decide +kernel
theorem d_La_law_302 : decode b_La_law 302 = .ok (.ifCond .ne 15, 3) := by decide +kernel
theorem d_La_law_305 : decode b_La_law 305 = .ok (.aload_n 3, 1) := by decide +kernel
theorem d_La_law_306 : decode b_La_law 306 = .ok (.iconst 0, 1) := by decide +kernel
theorem d_La_law_307 : decode b_La_law 307 = .ok (.laload, 1) := by decide +kernel
theorem d_La_law_308 : decode b_La_law 308 = .ok (.iload 6, 2) := by decide +kernel
theorem d_La_law_310 : decode b_La_law 310 = .ok (.i2l, 1) := by decide +kernel
theorem d_La_law_311 : decode b_La_law 311 = .ok (.lcmp, 1) := by decide +kernel
theorem d_La_law_312 : decode b_La_law 312 = .ok (.ifCond .eq 5, 3) := by decide +kernel
theorem d_La_law_315 : decode b_La_law 315 = .ok (.iconst 0, 1) := by decide +kernel
theorem d_La_law_316 : decode b_La_law 316 = .ok (.ireturn, 1) := by decide +kernel
theorem d_La_law_317 : decode b_La_law 317 = .ok (.goto 1078, 3) := by decide +kernel
theorem d_La_law_320 : decode b_La_law 320 = .ok (.aload_n 1, 1) := by decide +kernel
theorem d_La_law_321 : decode b_La_law 321 = .ok (.aload_n 0, 1) := by decide +kernel
theorem d_La_law_322 : decode b_La_law 322 = .ok (.iload 4, 2) := by decide +kernel
theorem d_La_law_324 : decode b_La_law 324 = .ok (.iconst 1, 1) := by decide +kernel
theorem d_La_law_325 : decode b_La_law 325 = .ok (.iadd, 1) := by decide +kernel
theorem d_La_law_326 : decode b_La_law 326 = .ok (.iaload, 1) := by decide +kernel
theorem d_La_law_327 : decode b_La_law 327 = .ok (.aload_n 0, 1) := by decide +kernel
theorem d_La_law_328 : decode b_La_law 328 = .ok (.iload 4, 2) := by decide +kernel
theorem d_La_law_330 : decode b_La_law 330 = .ok (.iconst 2, 1) := by decide +kernel
theorem d_La_law_331 : decode b_La_law 331 = .ok (.iadd, 1) := by decide +kernel
theorem d_La_law_332 : decode b_La_law 332 = .ok (.iaload, 1) := by decide +kernel
theorem d_La_law_333 : decode b_La_law 333 = .ok (.aload_n 0, 1) := by decide +kernel
theorem d_La_law_334 : decode b_La_law 334 = .ok (.iload 4, 2) := by decide +kernel
theorem d_La_law_336 : decode b_La_law 336 = .ok (.iconst 3, 1) := by decide +kernel
theorem d_La_law_337 : decode b_La_law 337 = .ok (.iadd, 1) := by decide +kernel
theorem d_La_law_338 : decode b_La_law 338 = .ok (.iaload, 1) := by decide +kernel
theorem d_La_law_339 : decode b_La_law 339 = .ok (.aload_n 0, 1) := by decide +kernel
theorem d_La_law_340 : decode b_La_law 340 = .ok (.iload 4, 2) := by decide +kernel
theorem d_La_law_342 : decode b_La_law 342 = .ok (.iconst 4, 1) := by decide +kernel
theorem d_La_law_343 : decode b_La_law 343 = .ok (.iadd, 1) := by decide +kernel
theorem d_La_law_344 : decode b_La_law 344 = .ok (.iaload, 1) := by decide +kernel
theorem d_La_law_345 : decode b_La_law 345 = .ok (.aload_n 3, 1) := by decide +kernel
theorem d_La_law_346 : decode b_La_law 346 = .ok (.invokestatic 94, 3) := by decide +kernel
theorem d_La_law_349 : decode b_La_law 349 = .ok (.istore 5, 2) := by decide +kernel
theorem d_La_law_351 : decode b_La_law 351 = .ok (.aload_n 2, 1) := by decide +kernel
theorem d_La_law_352 : decode b_La_law 352 = .ok (.aload_n 0, 1) := by decide +kernel
theorem d_La_law_353 : decode b_La_law 353 = .ok (.iload 4, 2) := by decide +kernel
theorem d_La_law_355 : decode b_La_law 355 = .ok (.iconst 1, 1) := by decide +kernel
theorem d_La_law_356 : decode b_La_law 356 = .ok (.iadd, 1) := by decide +kernel
theorem d_La_law_357 : decode b_La_law 357 = .ok (.iaload, 1) := by decide +kernel
theorem d_La_law_358 : decode b_La_law 358 = .ok (.aload_n 0, 1) := by decide +kernel
theorem d_La_law_359 : decode b_La_law 359 = .ok (.iload 4, 2) := by decide +kernel
theorem d_La_law_361 : decode b_La_law 361 = .ok (.iconst 2, 1) := by decide +kernel
theorem d_La_law_362 : decode b_La_law 362 = .ok (.iadd, 1) := by decide +kernel
theorem d_La_law_363 : decode b_La_law 363 = .ok (.iaload, 1) := by decide +kernel
theorem d_La_law_364 : decode b_La_law 364 = .ok (.aload_n 0, 1) := by decide +kernel
theorem d_La_law_365 : decode b_La_law 365 = .ok (.iload 4, 2) := by decide +kernel
theorem d_La_law_367 : decode b_La_law 367 = .ok (.iconst 3, 1) := by decide +kernel
theorem d_La_law_368 : decode b_La_law 368 = .ok (.iadd, 1) := by decide +kernel
theorem d_La_law_369 : decode b_La_law 369 = .ok (.iaload, 1) := by decide +kernel
theorem d_La_law_370 : decode b_La_law 370 = .ok (.aload_n 0, 1) := by decide +kernel
theorem d_La_law_371 : decode b_La_law 371 = .ok (.iload 4, 2) := by decide +kernel
theorem d_La_law_373 : decode b_La_law 373 = .ok (.iconst 4, 1) := by decide +kernel
theorem d_La_law_374 : decode b_La_law 374 = .ok (.iadd, 1) := by decide +kernel
theorem d_La_law_375 : decode b_La_law 375 = .ok (.iaload, 1) := by decide +kernel
theorem d_La_law_376 : decode b_La_law 376 = .ok (.invokevirtual 97, 3) := by decide +kernel
theorem d_La_law_379 : decode b_La_law 379 = .ok (.istore 6, 2) := by decide +kernel
theorem d_La_law_381 : decode b_La_law 381 = .ok (.aload_n 2, 1) := by decide +kernel
theorem d_La_law_382 : decode b_La_law 382 = .ok (.invokevirtual 87, 3) := by decide +kernel
theorem d_La_law_385 : decode b_La_law 385 = .ok (.iload 5, 2) := by decide +kernel
theorem d_La_law_387 : decode b_La_law 387 = .ok (.if_icmp .eq 5, 3) := by decide +kernel
theorem d_La_law_390 : decode b_La_law 390 = .ok (.iconst 0, 1) := by decide +kernel
theorem d_La_law_391 : decode b_La_law 391 = .ok (.ireturn, 1) := by decide +kernel
theorem d_La_law_392 : decode b_La_law 392 = .ok (.iload 5, 2) := by decide +kernel
theorem d_La_law_394 : decode b_La_law 394 = .ok (.ifCond .ne 15, 3) := by decide +kernel
theorem d_La_law_397 : decode b_La_law 397 = .ok (.aload_n 3, 1) := by decide +kernel
theorem d_La_law_398 : decode b_La_law 398 = .ok (.iconst 0, 1) := by decide +kernel
theorem d_La_law_399 : decode b_La_law 399 = .ok (.laload, 1) := by decide +kernel
theorem d_La_law_400 : decode b_La_law 400 = .ok (.iload 6, 2) := by decide +kernel
theorem d_La_law_402 : decode b_La_law 402 = .ok (.i2l, 1) := by decide +kernel
theorem d_La_law_403 : decode b_La_law 403 = .ok (.lcmp, 1) := by decide +kernel
theorem d_La_law_404 : decode b_La_law 404 = .ok (.ifCond .eq 5, 3) := by decide +kernel
theorem d_La_law_407 : decode b_La_law 407 = .ok (.iconst 0, 1) := by decide +kernel
theorem d_La_law_408 : decode b_La_law 408 = .ok (.ireturn, 1) := by decide +kernel
theorem d_La_law_409 : decode b_La_law 409 = .ok (.goto 986, 3) := by decide +kernel
theorem d_La_law_412 : decode b_La_law 412 = .ok (.aload_n 1, 1) := by decide +kernel
theorem d_La_law_413 : decode b_La_law 413 = .ok (.aload_n 0, 1) := by decide +kernel
theorem d_La_law_414 : decode b_La_law 414 = .ok (.iload 4, 2) := by decide +kernel
theorem d_La_law_416 : decode b_La_law 416 = .ok (.iconst 1, 1) := by decide +kernel
theorem d_La_law_417 : decode b_La_law 417 = .ok (.iadd, 1) := by decide +kernel
theorem d_La_law_418 : decode b_La_law 418 = .ok (.iaload, 1) := by decide +kernel
theorem d_La_law_419 : decode b_La_law 419 = .ok (.aload_n 0, 1) := by decide +kernel
theorem d_La_law_420 : decode b_La_law 420 = .ok (.iload 4, 2) := by decide +kernel
theorem d_La_law_422 : decode b_La_law 422 = .ok (.iconst 2, 1) := by decide +kernel
theorem d_La_law_423 : decode b_La_law 423 = .ok (.iadd, 1) := by decide +kernel
theorem d_La_law_424 : decode b_La_law 424 = .ok (.iaload, 1) := by decide +kernel
theorem d_La_law_425 : decode b_La_law 425 = .ok (.aload_n 0, 1) := by decide +kernel
theorem d_La_law_426 : decode b_La_law 426 = .ok (.iload 4, 2) := by decide +kernel
theorem d_La_law_428 : decode b_La_law 428 = .ok (.iconst 3, 1) := by decide +kernel
theorem d_La_law_429 : decode b_La_law 429 = .ok (.iadd, 1) := by decide +kernel
theorem d_La_law_430 : decode b_La_law 430 = .ok (.iaload, 1) := by decide +kernel
theorem d_La_law_431 : decode b_La_law 431 = .ok (.aload_n 3, 1) := by decide +kernel
theorem d_La_law_432 : decode b_La_law 432 = .ok (.invokestatic 98, 3) := by decide +kernel
theorem d_La_law_435 : decode b_La_law 435 = .ok (.istore 5, 2) := by decide +kernel
theorem d_La_law_437 : decode b_La_law 437 = .ok (.aload_n 2, 1) := by decide +kernel
theorem d_La_law_438 : decode b_La_law 438 = .ok (.aload_n 0, 1) := by decide +kernel
theorem d_La_law_439 : decode b_La_law 439 = .ok (.iload 4, 2) := by decide +kernel
theorem d_La_law_441 : decode b_La_law 441 = .ok (.iconst 1, 1) := by decide +kernel
theorem d_La_law_442 : decode b_La_law 442 = .ok (.iadd, 1) := by decide +kernel
theorem d_La_law_443 : decode b_La_law 443 = .ok (.iaload, 1) := by decide +kernel
theorem d_La_law_444 : decode b_La_law 444 = .ok (.aload_n 0, 1) := by decide +kernel
theorem d_La_law_445 : decode b_La_law 445 = .ok (.iload 4, 2) := by decide +kernel
theorem d_La_law_447 : decode b_La_law 447 = .ok (.iconst 2, 1) := by decide +kernel
theorem d_La_law_448 : decode b_La_law 448 = .ok (.iadd, 1) := by decide +kernel
theorem d_La_law_449 : decode b_La_law 449 = .ok (.iaload, 1) := by decide +kernel
theorem d_La_law_450 : decode b_La_law 450 = .ok (.aload_n 0, 1) := by decide +kernel
theorem d_La_law_451 : decode b_La_law 451 = .ok (.iload 4, 2) := by decide +kernel
theorem d_La_law_453 : decode b_La_law 453 = .ok (.iconst 3, 1) := by decide +kernel
theorem d_La_law_454 : decode b_La_law 454 = .ok (.iadd, 1) := by decide +kernel
theorem d_La_law_455 : decode b_La_law 455 = .ok (.iaload, 1) := by decide +kernel
theorem d_La_law_456 : decode b_La_law 456 = .ok (.invokevirtual 101, 3) := by decide +kernel
theorem d_La_law_459 : decode b_La_law 459 = .ok (.istore 6, 2) := by decide +kernel
theorem d_La_law_461 : decode b_La_law 461 = .ok (.aload_n 2, 1) := by decide +kernel
theorem d_La_law_462 : decode b_La_law 462 = .ok (.invokevirtual 87, 3) := by decide +kernel
theorem d_La_law_465 : decode b_La_law 465 = .ok (.iload 5, 2) := by decide +kernel
theorem d_La_law_467 : decode b_La_law 467 = .ok (.if_icmp .eq 5, 3) := by decide +kernel
theorem d_La_law_470 : decode b_La_law 470 = .ok (.iconst 0, 1) := by decide +kernel
theorem d_La_law_471 : decode b_La_law 471 = .ok (.ireturn, 1) := by decide +kernel
theorem d_La_law_472 : decode b_La_law 472 = .ok (.iload 5, 2) := by decide +kernel
theorem d_La_law_474 : decode b_La_law 474 = .ok (.ifCond .ne 15, 3) := by decide +kernel
theorem d_La_law_477 : decode b_La_law 477 = .ok (.aload_n 3, 1) := by decide +kernel
theorem d_La_law_478 : decode b_La_law 478 = .ok (.iconst 0, 1) := by decide +kernel
theorem d_La_law_479 : decode b_La_law 479 = .ok (.laload, 1) := by decide +kernel
theorem d_La_law_480 : decode b_La_law 480 = .ok (.iload 6, 2) := by decide +kernel
theorem d_La_law_482 : decode b_La_law 482 = .ok (.i2l, 1) := by decide +kernel
theorem d_La_law_483 : decode b_La_law 483 = .ok (.lcmp, 1) := by decide +kernel
theorem d_La_law_484 : decode b_La_law 484 = .ok (.ifCond .eq 5, 3) := by decide +kernel
theorem d_La_law_487 : decode b_La_law 487 = .ok (.iconst 0, 1) := by decide +kernel
theorem d_La_law_488 : decode b_La_law 488 = .ok (.ireturn, 1) := by decide +kernel
theorem d_La_law_489 : decode b_La_law 489 = .ok (.goto 906, 3) := by decide +kernel
theorem d_La_law_492 : decode b_La_law 492 = .ok (.aload_n 1, 1) := by decide +kernel
theorem d_La_law_493 : decode b_La_law 493 = .ok (.aload_n 0, 1) := by decide +kernel
theorem d_La_law_494 : decode b_La_law 494 = .ok (.iload 4, 2) := by decide +kernel
theorem d_La_law_496 : decode b_La_law 496 = .ok (.iconst 1, 1) := by decide +kernel
theorem d_La_law_497 : decode b_La_law 497 = .ok (.iadd, 1) := by decide +kernel
theorem d_La_law_498 : decode b_La_law 498 = .ok (.iaload, 1) := by decide +kernel
theorem d_La_law_499 : decode b_La_law 499 = .ok (.aload_n 0, 1) := by decide +kernel
theorem d_La_law_500 : decode b_La_law 500 = .ok (.iload 4, 2) := by decide +kernel
theorem d_La_law_502 : decode b_La_law 502 = .ok (.iconst 2, 1) := by decide +kernel
theorem d_La_law_503 : decode b_La_law 503 = .ok (.iadd, 1) := by decide +kernel
theorem d_La_law_504 : decode b_La_law 504 = .ok (.iaload, 1) := by decide +kernel
theorem d_La_law_505 : decode b_La_law 505 = .ok (.aload_n 3, 1) := by decide +kernel
theorem d_La_law_506 : decode b_La_law 506 = .ok (.invokestatic 102, 3) := by decide +kernel
theorem d_La_law_509 : decode b_La_law 509 = .ok (.istore 5, 2) := by decide +kernel
theorem d_La_law_511 : decode b_La_law 511 = .ok (.aload_n 2, 1) := by decide +kernel
theorem d_La_law_512 : decode b_La_law 512 = .ok (.aload_n 0, 1) := by decide +kernel
theorem d_La_law_513 : decode b_La_law 513 = .ok (.iload 4, 2) := by decide +kernel
theorem d_La_law_515 : decode b_La_law 515 = .ok (.iconst 1, 1) := by decide +kernel
theorem d_La_law_516 : decode b_La_law 516 = .ok (.iadd, 1) := by decide +kernel
theorem d_La_law_517 : decode b_La_law 517 = .ok (.iaload, 1) := by decide +kernel
theorem d_La_law_518 : decode b_La_law 518 = .ok (.aload_n 0, 1) := by decide +kernel
theorem d_La_law_519 : decode b_La_law 519 = .ok (.iload 4, 2) := by decide +kernel
theorem d_La_law_521 : decode b_La_law 521 = .ok (.iconst 2, 1) := by decide +kernel
theorem d_La_law_522 : decode b_La_law 522 = .ok (.iadd, 1) := by decide +kernel
theorem d_La_law_523 : decode b_La_law 523 = .ok (.iaload, 1) := by decide +kernel
theorem d_La_law_524 : decode b_La_law 524 = .ok (.invokevirtual 105, 3) := by decide +kernel
theorem d_La_law_527 : decode b_La_law 527 = .ok (.istore 6, 2) := by decide +kernel
theorem d_La_law_529 : decode b_La_law 529 = .ok (.aload_n 2, 1) := by decide +kernel
theorem d_La_law_530 : decode b_La_law 530 = .ok (.invokevirtual 87, 3) := by decide +kernel
theorem d_La_law_533 : decode b_La_law 533 = .ok (.iload 5, 2) := by decide +kernel
theorem d_La_law_535 : decode b_La_law 535 = .ok (.if_icmp .eq 5, 3) := by decide +kernel
theorem d_La_law_538 : decode b_La_law 538 = .ok (.iconst 0, 1) := by decide +kernel
theorem d_La_law_539 : decode b_La_law 539 = .ok (.ireturn, 1) := by decide +kernel
theorem d_La_law_540 : decode b_La_law 540 = .ok (.iload 5, 2) := by decide +kernel
theorem d_La_law_542 : decode b_La_law 542 = .ok (.ifCond .ne 15, 3) := by decide +kernel
theorem d_La_law_545 : decode b_La_law 545 = .ok (.aload_n 3, 1) := by decide +kernel
theorem d_La_law_546 : decode b_La_law 546 = .ok (.iconst 0, 1) := by decide +kernel
theorem d_La_law_547 : decode b_La_law 547 = .ok (.laload, 1) := by decide +kernel
theorem d_La_law_548 : decode b_La_law 548 = .ok (.iload 6, 2) := by decide +kernel
theorem d_La_law_550 : decode b_La_law 550 = .ok (.i2l, 1) := by decide +kernel
theorem d_La_law_551 : decode b_La_law 551 = .ok (.lcmp, 1) := by decide +kernel
theorem d_La_law_552 : decode b_La_law 552 = .ok (.ifCond .eq 5, 3) := by decide +kernel
theorem d_La_law_555 : decode b_La_law 555 = .ok (.iconst 0, 1) := by decide +kernel
theorem d_La_law_556 : decode b_La_law 556 = .ok (.ireturn, 1) := by decide +kernel
theorem d_La_law_557 : decode b_La_law 557 = .ok (.goto 838, 3) := by decide +kernel
theorem d_La_law_560 : decode b_La_law 560 = .ok (.aload_n 1, 1) := by decide +kernel
theorem d_La_law_561 : decode b_La_law 561 = .ok (.aload_n 0, 1) := by decide +kernel
theorem d_La_law_562 : decode b_La_law 562 = .ok (.iload 4, 2) := by decide +kernel
theorem d_La_law_564 : decode b_La_law 564 = .ok (.iconst 1, 1) := by decide +kernel
theorem d_La_law_565 : decode b_La_law 565 = .ok (.iadd, 1) := by decide +kernel
theorem d_La_law_566 : decode b_La_law 566 = .ok (.iaload, 1) := by decide +kernel
theorem d_La_law_567 : decode b_La_law 567 = .ok (.aload_n 0, 1) := by decide +kernel
theorem d_La_law_568 : decode b_La_law 568 = .ok (.iload 4, 2) := by decide +kernel
theorem d_La_law_570 : decode b_La_law 570 = .ok (.iconst 2, 1) := by decide +kernel
theorem d_La_law_571 : decode b_La_law 571 = .ok (.iadd, 1) := by decide +kernel
theorem d_La_law_572 : decode b_La_law 572 = .ok (.iaload, 1) := by decide +kernel
theorem d_La_law_573 : decode b_La_law 573 = .ok (.aload_n 0, 1) := by decide +kernel
theorem d_La_law_574 : decode b_La_law 574 = .ok (.iload 4, 2) := by decide +kernel
theorem d_La_law_576 : decode b_La_law 576 = .ok (.iconst 3, 1) := by decide +kernel
theorem d_La_law_577 : decode b_La_law 577 = .ok (.iadd, 1) := by decide +kernel
theorem d_La_law_578 : decode b_La_law 578 = .ok (.iaload, 1) := by decide +kernel
theorem d_La_law_579 : decode b_La_law 579 = .ok (.aload_n 3, 1) := by decide +kernel
theorem d_La_law_580 : decode b_La_law 580 = .ok (.invokestatic 106, 3) := by decide +kernel
theorem d_La_law_583 : decode b_La_law 583 = .ok (.istore 5, 2) := by decide +kernel
theorem d_La_law_585 : decode b_La_law 585 = .ok (.aload_n 2, 1) := by decide +kernel
theorem d_La_law_586 : decode b_La_law 586 = .ok (.aload_n 0, 1) := by decide +kernel
theorem d_La_law_587 : decode b_La_law 587 = .ok (.iload 4, 2) := by decide +kernel
theorem d_La_law_589 : decode b_La_law 589 = .ok (.iconst 1, 1) := by decide +kernel
theorem d_La_law_590 : decode b_La_law 590 = .ok (.iadd, 1) := by decide +kernel
theorem d_La_law_591 : decode b_La_law 591 = .ok (.iaload, 1) := by decide +kernel
theorem d_La_law_592 : decode b_La_law 592 = .ok (.aload_n 0, 1) := by decide +kernel
theorem d_La_law_593 : decode b_La_law 593 = .ok (.iload 4, 2) := by decide +kernel
theorem d_La_law_595 : decode b_La_law 595 = .ok (.iconst 2, 1) := by decide +kernel
theorem d_La_law_596 : decode b_La_law 596 = .ok (.iadd, 1) := by decide +kernel
theorem d_La_law_597 : decode b_La_law 597 = .ok (.iaload, 1) := by decide +kernel
theorem d_La_law_598 : decode b_La_law 598 = .ok (.aload_n 0, 1) := by decide +kernel
theorem d_La_law_599 : decode b_La_law 599 = .ok (.iload 4, 2) := by decide +kernel
theorem d_La_law_601 : decode b_La_law 601 = .ok (.iconst 3, 1) := by decide +kernel
theorem d_La_law_602 : decode b_La_law 602 = .ok (.iadd, 1) := by decide +kernel
theorem d_La_law_603 : decode b_La_law 603 = .ok (.iaload, 1) := by decide +kernel
theorem d_La_law_604 : decode b_La_law 604 = .ok (.invokevirtual 108, 3) := by decide +kernel
theorem d_La_law_607 : decode b_La_law 607 = .ok (.istore 6, 2) := by decide +kernel
theorem d_La_law_609 : decode b_La_law 609 = .ok (.aload_n 2, 1) := by decide +kernel
theorem d_La_law_610 : decode b_La_law 610 = .ok (.invokevirtual 87, 3) := by decide +kernel
theorem d_La_law_613 : decode b_La_law 613 = .ok (.iload 5, 2) := by decide +kernel
theorem d_La_law_615 : decode b_La_law 615 = .ok (.if_icmp .eq 5, 3) := by decide +kernel
theorem d_La_law_618 : decode b_La_law 618 = .ok (.iconst 0, 1) := by decide +kernel
theorem d_La_law_619 : decode b_La_law 619 = .ok (.ireturn, 1) := by decide +kernel
theorem d_La_law_620 : decode b_La_law 620 = .ok (.iload 5, 2) := by decide +kernel
theorem d_La_law_622 : decode b_La_law 622 = .ok (.ifCond .ne 15, 3) := by decide +kernel
theorem d_La_law_625 : decode b_La_law 625 = .ok (.aload_n 3, 1) := by decide +kernel
theorem d_La_law_626 : decode b_La_law 626 = .ok (.iconst 0, 1) := by decide +kernel
theorem d_La_law_627 : decode b_La_law 627 = .ok (.laload, 1) := by decide +kernel
theorem d_La_law_628 : decode b_La_law 628 = .ok (.iload 6, 2) := by decide +kernel
theorem d_La_law_630 : decode b_La_law 630 = .ok (.i2l, 1) := by decide +kernel
theorem d_La_law_631 : decode b_La_law 631 = .ok (.lcmp, 1) := by decide +kernel
theorem d_La_law_632 : decode b_La_law 632 = .ok (.ifCond .eq 5, 3) := by decide +kernel
theorem d_La_law_635 : decode b_La_law 635 = .ok (.iconst 0, 1) := by decide +kernel
theorem d_La_law_636 : decode b_La_law 636 = .ok (.ireturn, 1) := by decide +kernel
theorem d_La_law_637 : decode b_La_law 637 = .ok (.goto 758, 3) := by decide +kernel
theorem d_La_law_640 : decode b_La_law 640 = .ok (.aload_n 1, 1) := by decide +kernel
theorem d_La_law_641 : decode b_La_law 641 = .ok (.aload_n 0, 1) := by decide +kernel
theorem d_La_law_642 : decode b_La_law 642 = .ok (.iload 4, 2) := by decide +kernel
theorem d_La_law_644 : decode b_La_law 644 = .ok (.iconst 1, 1) := by decide +kernel
theorem d_La_law_645 : decode b_La_law 645 = .ok (.iadd, 1) := by decide +kernel
theorem d_La_law_646 : decode b_La_law 646 = .ok (.iaload, 1) := by decide +kernel
theorem d_La_law_647 : decode b_La_law 647 = .ok (.aload_n 3, 1) := by decide +kernel
theorem d_La_law_648 : decode b_La_law 648 = .ok (.invokestatic 109, 3) := by decide +kernel
theorem d_La_law_651 : decode b_La_law 651 = .ok (.istore 5, 2) := by decide +kernel
theorem d_La_law_653 : decode b_La_law 653 = .ok (.aload_n 2, 1) := by decide +kernel
theorem d_La_law_654 : decode b_La_law 654 = .ok (.aload_n 0, 1) := by decide +kernel
theorem d_La_law_655 : decode b_La_law 655 = .ok (.iload 4, 2) := by decide +kernel
theorem d_La_law_657 : decode b_La_law 657 = .ok (.iconst 1, 1) := by decide +kernel
theorem d_La_law_658 : decode b_La_law 658 = .ok (.iadd, 1) := by decide +kernel
theorem d_La_law_659 : decode b_La_law 659 = .ok (.iaload, 1) := by decide +kernel
theorem d_La_law_660 : decode b_La_law 660 = .ok (.invokevirtual 111, 3) := by decide +kernel
theorem d_La_law_663 : decode b_La_law 663 = .ok (.istore 6, 2) := by decide +kernel
theorem d_La_law_665 : decode b_La_law 665 = .ok (.aload_n 2, 1) := by decide +kernel
theorem d_La_law_666 : decode b_La_law 666 = .ok (.invokevirtual 87, 3) := by decide +kernel
theorem d_La_law_669 : decode b_La_law 669 = .ok (.iload 5, 2) := by decide +kernel
theorem d_La_law_671 : decode b_La_law 671 = .ok (.if_icmp .eq 5, 3) := by decide +kernel
theorem d_La_law_674 : decode b_La_law 674 = .ok (.iconst 0, 1) := by decide +kernel
theorem d_La_law_675 : decode b_La_law 675 = .ok (.ireturn, 1) := by decide +kernel
theorem d_La_law_676 : decode b_La_law 676 = .ok (.iload 5, 2) := by decide +kernel
theorem d_La_law_678 : decode b_La_law 678 = .ok (.ifCond .ne 15, 3) := by decide +kernel
theorem d_La_law_681 : decode b_La_law 681 = .ok (.aload_n 3, 1) := by decide +kernel
theorem d_La_law_682 : decode b_La_law 682 = .ok (.iconst 0, 1) := by decide +kernel
theorem d_La_law_683 : decode b_La_law 683 = .ok (.laload, 1) := by decide +kernel
theorem d_La_law_684 : decode b_La_law 684 = .ok (.iload 6, 2) := by decide +kernel
theorem d_La_law_686 : decode b_La_law 686 = .ok (.i2l, 1) := by decide +kernel
theorem d_La_law_687 : decode b_La_law 687 = .ok (.lcmp, 1) := by decide +kernel
theorem d_La_law_688 : decode b_La_law 688 = .ok (.ifCond .eq 5, 3) := by decide +kernel
theorem d_La_law_691 : decode b_La_law 691 = .ok (.iconst 0, 1) := by decide +kernel
theorem d_La_law_692 : decode b_La_law 692 = .ok (.ireturn, 1) := by decide +kernel
theorem d_La_law_693 : decode b_La_law 693 = .ok (.goto 702, 3) := by decide +kernel
theorem d_La_law_696 : decode b_La_law 696 = .ok (.aload_n 1, 1) := by decide +kernel
theorem d_La_law_697 : decode b_La_law 697 = .ok (.aload_n 0, 1) := by decide +kernel
theorem d_La_law_698 : decode b_La_law 698 = .ok (.iload 4, 2) := by decide +kernel
theorem d_La_law_700 : decode b_La_law 700 = .ok (.iconst 1, 1) := by decide +kernel
theorem d_La_law_701 : decode b_La_law 701 = .ok (.iadd, 1) := by decide +kernel
theorem d_La_law_702 : decode b_La_law 702 = .ok (.iaload, 1) := by decide +kernel
theorem d_La_law_703 : decode b_La_law 703 = .ok (.aload_n 3, 1) := by decide +kernel
theorem d_La_law_704 : decode b_La_law 704 = .ok (.invokestatic 112, 3) := by decide +kernel
theorem d_La_law_707 : decode b_La_law 707 = .ok (.istore 5, 2) := by decide +kernel
theorem d_La_law_709 : decode b_La_law 709 = .ok (.aload_n 2, 1) := by decide +kernel
theorem d_La_law_710 : decode b_La_law 710 = .ok (.aload_n 0, 1) := by decide +kernel
theorem d_La_law_711 : decode b_La_law 711 = .ok (.iload 4, 2) := by decide +kernel
theorem d_La_law_713 : decode b_La_law 713 = .ok (.iconst 1, 1) := by decide +kernel
theorem d_La_law_714 : decode b_La_law 714 = .ok (.iadd, 1) := by decide +kernel
theorem d_La_law_715 : decode b_La_law 715 = .ok (.iaload, 1) := by decide +kernel
theorem d_La_law_716 : decode b_La_law 716 = .ok (.invokevirtual 114, 3) := by decide +kernel
theorem d_La_law_719 : decode b_La_law 719 = .ok (.istore 6, 2) := by decide +kernel
theorem d_La_law_721 : decode b_La_law 721 = .ok (.aload_n 2, 1) := by decide +kernel
theorem d_La_law_722 : decode b_La_law 722 = .ok (.invokevirtual 87, 3) := by decide +kernel
theorem d_La_law_725 : decode b_La_law 725 = .ok (.iload 5, 2) := by decide +kernel
theorem d_La_law_727 : decode b_La_law 727 = .ok (.if_icmp .eq 5, 3) := by decide +kernel
theorem d_La_law_730 : decode b_La_law 730 = .ok (.iconst 0, 1) := by decide +kernel
theorem d_La_law_731 : decode b_La_law 731 = .ok (.ireturn, 1) := by decide +kernel
theorem d_La_law_732 : decode b_La_law 732 = .ok (.iload 5, 2) := by decide +kernel
theorem d_La_law_734 : decode b_La_law 734 = .ok (.ifCond .ne 15, 3) := by decide +kernel
theorem d_La_law_737 : decode b_La_law 737 = .ok (.aload_n 3, 1) := by decide +kernel
theorem d_La_law_738 : decode b_La_law 738 = .ok (.iconst 0, 1) := by decide +kernel
theorem d_La_law_739 : decode b_La_law 739 = .ok (.laload, 1) := by decide +kernel
theorem d_La_law_740 : decode b_La_law 740 = .ok (.iload 6, 2) := by decide +kernel
theorem d_La_law_742 : decode b_La_law 742 = .ok (.i2l, 1) := by decide +kernel
theorem d_La_law_743 : decode b_La_law 743 = .ok (.lcmp, 1) := by decide +kernel
theorem d_La_law_744 : decode b_La_law 744 = .ok (.ifCond .eq 5, 3) := by decide +kernel
theorem d_La_law_747 : decode b_La_law 747 = .ok (.iconst 0, 1) := by decide +kernel
theorem d_La_law_748 : decode b_La_law 748 = .ok (.ireturn, 1) := by decide +kernel
theorem d_La_law_749 : decode b_La_law 749 = .ok (.goto 646, 3) := by decide +kernel
theorem d_La_law_752 : decode b_La_law 752 = .ok (.aload_n 1, 1) := by decide +kernel
theorem d_La_law_753 : decode b_La_law 753 = .ok (.aload_n 0, 1) := by decide +kernel
theorem d_La_law_754 : decode b_La_law 754 = .ok (.iload 4, 2) := by decide +kernel
theorem d_La_law_756 : decode b_La_law 756 = .ok (.iconst 1, 1) := by decide +kernel
theorem d_La_law_757 : decode b_La_law 757 = .ok (.iadd, 1) := by decide +kernel
theorem d_La_law_758 : decode b_La_law 758 = .ok (.iaload, 1) := by decide +kernel
theorem d_La_law_759 : decode b_La_law 759 = .ok (.aload_n 0, 1) := by decide +kernel
theorem d_La_law_760 : decode b_La_law 760 = .ok (.iload 4, 2) := by decide +kernel
theorem d_La_law_762 : decode b_La_law 762 = .ok (.iconst 2, 1) := by decide +kernel
theorem d_La_law_763 : decode b_La_law 763 = .ok (.iadd, 1) := by decide +kernel
theorem d_La_law_764 : decode b_La_law 764 = .ok (.iaload, 1) := by decide +kernel
theorem d_La_law_765 : decode b_La_law 765 = .ok (.aload_n 0, 1) := by decide +kernel
theorem d_La_law_766 : decode b_La_law 766 = .ok (.iload 4, 2) := by decide +kernel
theorem d_La_law_768 : decode b_La_law 768 = .ok (.iconst 3, 1) := by decide +kernel
theorem d_La_law_769 : decode b_La_law 769 = .ok (.iadd, 1) := by decide +kernel
theorem d_La_law_770 : decode b_La_law 770 = .ok (.iaload, 1) := by decide +kernel
theorem d_La_law_771 : decode b_La_law 771 = .ok (.aload_n 3, 1) := by decide +kernel
theorem d_La_law_772 : decode b_La_law 772 = .ok (.invokestatic 115, 3) := by decide +kernel
theorem d_La_law_775 : decode b_La_law 775 = .ok (.istore 5, 2) := by decide +kernel
theorem d_La_law_777 : decode b_La_law 777 = .ok (.aload_n 2, 1) := by decide +kernel
theorem d_La_law_778 : decode b_La_law 778 = .ok (.aload_n 0, 1) := by decide +kernel
theorem d_La_law_779 : decode b_La_law 779 = .ok (.iload 4, 2) := by decide +kernel
theorem d_La_law_781 : decode b_La_law 781 = .ok (.iconst 1, 1) := by decide +kernel
theorem d_La_law_782 : decode b_La_law 782 = .ok (.iadd, 1) := by decide +kernel
theorem d_La_law_783 : decode b_La_law 783 = .ok (.iaload, 1) := by decide +kernel
theorem d_La_law_784 : decode b_La_law 784 = .ok (.aload_n 0, 1) := by decide +kernel
theorem d_La_law_785 : decode b_La_law 785 = .ok (.iload 4, 2) := by decide +kernel
theorem d_La_law_787 : decode b_La_law 787 = .ok (.iconst 2, 1) := by decide +kernel
theorem d_La_law_788 : decode b_La_law 788 = .ok (.iadd, 1) := by decide +kernel
theorem d_La_law_789 : decode b_La_law 789 = .ok (.iaload, 1) := by decide +kernel
theorem d_La_law_790 : decode b_La_law 790 = .ok (.aload_n 0, 1) := by decide +kernel
theorem d_La_law_791 : decode b_La_law 791 = .ok (.iload 4, 2) := by decide +kernel
theorem d_La_law_793 : decode b_La_law 793 = .ok (.iconst 3, 1) := by decide +kernel
theorem d_La_law_794 : decode b_La_law 794 = .ok (.iadd, 1) := by decide +kernel
theorem d_La_law_795 : decode b_La_law 795 = .ok (.iaload, 1) := by decide +kernel
theorem d_La_law_796 : decode b_La_law 796 = .ok (.invokevirtual 117, 3) := by decide +kernel
theorem d_La_law_799 : decode b_La_law 799 = .ok (.istore 6, 2) := by decide +kernel
theorem d_La_law_801 : decode b_La_law 801 = .ok (.aload_n 2, 1) := by decide +kernel
theorem d_La_law_802 : decode b_La_law 802 = .ok (.invokevirtual 87, 3) := by decide +kernel
theorem d_La_law_805 : decode b_La_law 805 = .ok (.iload 5, 2) := by decide +kernel
theorem d_La_law_807 : decode b_La_law 807 = .ok (.if_icmp .eq 5, 3) := by decide +kernel
theorem d_La_law_810 : decode b_La_law 810 = .ok (.iconst 0, 1) := by decide +kernel
theorem d_La_law_811 : decode b_La_law 811 = .ok (.ireturn, 1) := by decide +kernel
theorem d_La_law_812 : decode b_La_law 812 = .ok (.iload 5, 2) := by decide +kernel
theorem d_La_law_814 : decode b_La_law 814 = .ok (.ifCond .ne 15, 3) := by decide +kernel
theorem d_La_law_817 : decode b_La_law 817 = .ok (.aload_n 3, 1) := by decide +kernel
theorem d_La_law_818 : decode b_La_law 818 = .ok (.iconst 0, 1) := by decide +kernel
theorem d_La_law_819 : decode b_La_law 819 = .ok (.laload, 1) := by decide +kernel
theorem d_La_law_820 : decode b_La_law 820 = .ok (.iload 6, 2) := by decide +kernel
theorem d_La_law_822 : decode b_La_law 822 = .ok (.i2l, 1) := by decide +kernel
theorem d_La_law_823 : decode b_La_law 823 = .ok (.lcmp, 1) := by decide +kernel
theorem d_La_law_824 : decode b_La_law 824 = .ok (.ifCond .eq 5, 3) := by decide +kernel
theorem d_La_law_827 : decode b_La_law 827 = .ok (.iconst 0, 1) := by decide +kernel
theorem d_La_law_828 : decode b_La_law 828 = .ok (.ireturn, 1) := by decide +kernel
theorem d_La_law_829 : decode b_La_law 829 = .ok (.goto 566, 3) := by decide +kernel
theorem d_La_law_832 : decode b_La_law 832 = .ok (.aload_n 1, 1) := by decide +kernel
theorem d_La_law_833 : decode b_La_law 833 = .ok (.aload_n 0, 1) := by decide +kernel
theorem d_La_law_834 : decode b_La_law 834 = .ok (.iload 4, 2) := by decide +kernel
theorem d_La_law_836 : decode b_La_law 836 = .ok (.iconst 1, 1) := by decide +kernel
theorem d_La_law_837 : decode b_La_law 837 = .ok (.iadd, 1) := by decide +kernel
theorem d_La_law_838 : decode b_La_law 838 = .ok (.iaload, 1) := by decide +kernel
theorem d_La_law_839 : decode b_La_law 839 = .ok (.aload_n 0, 1) := by decide +kernel
theorem d_La_law_840 : decode b_La_law 840 = .ok (.iload 4, 2) := by decide +kernel
theorem d_La_law_842 : decode b_La_law 842 = .ok (.iconst 2, 1) := by decide +kernel
theorem d_La_law_843 : decode b_La_law 843 = .ok (.iadd, 1) := by decide +kernel
theorem d_La_law_844 : decode b_La_law 844 = .ok (.iaload, 1) := by decide +kernel
theorem d_La_law_845 : decode b_La_law 845 = .ok (.aload_n 3, 1) := by decide +kernel
theorem d_La_law_846 : decode b_La_law 846 = .ok (.invokestatic 118, 3) := by decide +kernel
theorem d_La_law_849 : decode b_La_law 849 = .ok (.istore 5, 2) := by decide +kernel
theorem d_La_law_851 : decode b_La_law 851 = .ok (.aload_n 2, 1) := by decide +kernel
theorem d_La_law_852 : decode b_La_law 852 = .ok (.aload_n 0, 1) := by decide +kernel
theorem d_La_law_853 : decode b_La_law 853 = .ok (.iload 4, 2) := by decide +kernel
theorem d_La_law_855 : decode b_La_law 855 = .ok (.iconst 1, 1) := by decide +kernel
theorem d_La_law_856 : decode b_La_law 856 = .ok (.iadd, 1) := by decide +kernel
theorem d_La_law_857 : decode b_La_law 857 = .ok (.iaload, 1) := by decide +kernel
theorem d_La_law_858 : decode b_La_law 858 = .ok (.aload_n 0, 1) := by decide +kernel
theorem d_La_law_859 : decode b_La_law 859 = .ok (.iload 4, 2) := by decide +kernel
theorem d_La_law_861 : decode b_La_law 861 = .ok (.iconst 2, 1) := by decide +kernel
theorem d_La_law_862 : decode b_La_law 862 = .ok (.iadd, 1) := by decide +kernel
theorem d_La_law_863 : decode b_La_law 863 = .ok (.iaload, 1) := by decide +kernel
theorem d_La_law_864 : decode b_La_law 864 = .ok (.invokevirtual 120, 3) := by decide +kernel
theorem d_La_law_867 : decode b_La_law 867 = .ok (.istore 6, 2) := by decide +kernel
theorem d_La_law_869 : decode b_La_law 869 = .ok (.aload_n 2, 1) := by decide +kernel
theorem d_La_law_870 : decode b_La_law 870 = .ok (.invokevirtual 87, 3) := by decide +kernel
theorem d_La_law_873 : decode b_La_law 873 = .ok (.iload 5, 2) := by decide +kernel
theorem d_La_law_875 : decode b_La_law 875 = .ok (.if_icmp .eq 5, 3) := by decide +kernel
theorem d_La_law_878 : decode b_La_law 878 = .ok (.iconst 0, 1) := by decide +kernel
theorem d_La_law_879 : decode b_La_law 879 = .ok (.ireturn, 1) := by decide +kernel
theorem d_La_law_880 : decode b_La_law 880 = .ok (.iload 5, 2) := by decide +kernel
theorem d_La_law_882 : decode b_La_law 882 = .ok (.ifCond .ne 15, 3) := by decide +kernel
theorem d_La_law_885 : decode b_La_law 885 = .ok (.aload_n 3, 1) := by decide +kernel
theorem d_La_law_886 : decode b_La_law 886 = .ok (.iconst 0, 1) := by decide +kernel
theorem d_La_law_887 : decode b_La_law 887 = .ok (.laload, 1) := by decide +kernel
theorem d_La_law_888 : decode b_La_law 888 = .ok (.iload 6, 2) := by decide +kernel
theorem d_La_law_890 : decode b_La_law 890 = .ok (.i2l, 1) := by decide +kernel
theorem d_La_law_891 : decode b_La_law 891 = .ok (.lcmp, 1) := by decide +kernel
theorem d_La_law_892 : decode b_La_law 892 = .ok (.ifCond .eq 5, 3) := by decide +kernel
theorem d_La_law_895 : decode b_La_law 895 = .ok (.iconst 0, 1) := by decide +kernel
theorem d_La_law_896 : decode b_La_law 896 = .ok (.ireturn, 1) := by decide +kernel
theorem d_La_law_897 : decode b_La_law 897 = .ok (.goto 498, 3) := by decide +kernel
theorem d_La_law_900 : decode b_La_law 900 = .ok (.aload_n 1, 1) := by decide +kernel
theorem d_La_law_901 : decode b_La_law 901 = .ok (.aload_n 0, 1) := by decide +kernel
theorem d_La_law_902 : decode b_La_law 902 = .ok (.iload 4, 2) := by decide +kernel
theorem d_La_law_904 : decode b_La_law 904 = .ok (.iconst 1, 1) := by decide +kernel
theorem d_La_law_905 : decode b_La_law 905 = .ok (.iadd, 1) := by decide +kernel
theorem d_La_law_906 : decode b_La_law 906 = .ok (.iaload, 1) := by decide +kernel
theorem d_La_law_907 : decode b_La_law 907 = .ok (.aload_n 0, 1) := by decide +kernel
theorem d_La_law_908 : decode b_La_law 908 = .ok (.iload 4, 2) := by decide +kernel
theorem d_La_law_910 : decode b_La_law 910 = .ok (.iconst 2, 1) := by decide +kernel
theorem d_La_law_911 : decode b_La_law 911 = .ok (.iadd, 1) := by decide +kernel
theorem d_La_law_912 : decode b_La_law 912 = .ok (.iaload, 1) := by decide +kernel
theorem d_La_law_913 : decode b_La_law 913 = .ok (.aload_n 3, 1) := by decide +kernel
theorem d_La_law_914 : decode b_La_law 914 = .ok (.invokestatic 121, 3) := by decide +kernel
theorem d_La_law_917 : decode b_La_law 917 = .ok (.istore 5, 2) := by decide +kernel
theorem d_La_law_919 : decode b_La_law 919 = .ok (.aload_n 2, 1) := by decide +kernel
theorem d_La_law_920 : decode b_La_law 920 = .ok (.aload_n 0, 1) := by decide +kernel
theorem d_La_law_921 : decode b_La_law 921 = .ok (.iload 4, 2) := by decide +kernel
theorem d_La_law_923 : decode b_La_law 923 = .ok (.iconst 1, 1) := by decide +kernel
theorem d_La_law_924 : decode b_La_law 924 = .ok (.iadd, 1) := by decide +kernel
theorem d_La_law_925 : decode b_La_law 925 = .ok (.iaload, 1) := by decide +kernel
theorem d_La_law_926 : decode b_La_law 926 = .ok (.aload_n 0, 1) := by decide +kernel
theorem d_La_law_927 : decode b_La_law 927 = .ok (.iload 4, 2) := by decide +kernel
theorem d_La_law_929 : decode b_La_law 929 = .ok (.iconst 2, 1) := by decide +kernel
theorem d_La_law_930 : decode b_La_law 930 = .ok (.iadd, 1) := by decide +kernel
theorem d_La_law_931 : decode b_La_law 931 = .ok (.iaload, 1) := by decide +kernel
theorem d_La_law_932 : decode b_La_law 932 = .ok (.invokevirtual 123, 3) := by decide +kernel
theorem d_La_law_935 : decode b_La_law 935 = .ok (.istore 6, 2) := by decide +kernel
theorem d_La_law_937 : decode b_La_law 937 = .ok (.aload_n 2, 1) := by decide +kernel
theorem d_La_law_938 : decode b_La_law 938 = .ok (.invokevirtual 87, 3) := by decide +kernel
theorem d_La_law_941 : decode b_La_law 941 = .ok (.iload 5, 2) := by decide +kernel
theorem d_La_law_943 : decode b_La_law 943 = .ok (.if_icmp .eq 5, 3) := by decide +kernel
theorem d_La_law_946 : decode b_La_law 946 = .ok (.iconst 0, 1) := by decide +kernel
theorem d_La_law_947 : decode b_La_law 947 = .ok (.ireturn, 1) := by decide +kernel
theorem d_La_law_948 : decode b_La_law 948 = .ok (.iload 5, 2) := by decide +kernel
theorem d_La_law_950 : decode b_La_law 950 = .ok (.ifCond .ne 15, 3) := by decide +kernel
theorem d_La_law_953 : decode b_La_law 953 = .ok (.aload_n 3, 1) := by decide +kernel
theorem d_La_law_954 : decode b_La_law 954 = .ok (.iconst 0, 1) := by decide +kernel
theorem d_La_law_955 : decode b_La_law 955 = .ok (.laload, 1) := by decide +kernel
theorem d_La_law_956 : decode b_La_law 956 = .ok (.iload 6, 2) := by decide +kernel
theorem d_La_law_958 : decode b_La_law 958 = .ok (.i2l, 1) := by decide +kernel
theorem d_La_law_959 : decode b_La_law 959 = .ok (.lcmp, 1) := by decide +kernel
theorem d_La_law_960 : decode b_La_law 960 = .ok (.ifCond .eq 5, 3) := by decide +kernel
theorem d_La_law_963 : decode b_La_law 963 = .ok (.iconst 0, 1) := by decide +kernel
theorem d_La_law_964 : decode b_La_law 964 = .ok (.ireturn, 1) := by decide +kernel
theorem d_La_law_965 : decode b_La_law 965 = .ok (.goto 430, 3) := by decide +kernel
theorem d_La_law_968 : decode b_La_law 968 = .ok (.aload_n 1, 1) := by decide +kernel
theorem d_La_law_969 : decode b_La_law 969 = .ok (.aload_n 0, 1) := by decide +kernel
theorem d_La_law_970 : decode b_La_law 970 = .ok (.iload 4, 2) := by decide +kernel
theorem d_La_law_972 : decode b_La_law 972 = .ok (.iconst 1, 1) := by decide +kernel
theorem d_La_law_973 : decode b_La_law 973 = .ok (.iadd, 1) := by decide +kernel
theorem d_La_law_974 : decode b_La_law 974 = .ok (.iaload, 1) := by decide +kernel
theorem d_La_law_975 : decode b_La_law 975 = .ok (.aload_n 0, 1) := by decide +kernel
theorem d_La_law_976 : decode b_La_law 976 = .ok (.iload 4, 2) := by decide +kernel
theorem d_La_law_978 : decode b_La_law 978 = .ok (.iconst 2, 1) := by decide +kernel
theorem d_La_law_979 : decode b_La_law 979 = .ok (.iadd, 1) := by decide +kernel
theorem d_La_law_980 : decode b_La_law 980 = .ok (.iaload, 1) := by decide +kernel
theorem d_La_law_981 : decode b_La_law 981 = .ok (.aload_n 3, 1) := by decide +kernel
theorem d_La_law_982 : decode b_La_law 982 = .ok (.invokestatic 124, 3) := by decide +kernel
theorem d_La_law_985 : decode b_La_law 985 = .ok (.istore 5, 2) := by decide +kernel
theorem d_La_law_987 : decode b_La_law 987 = .ok (.aload_n 2, 1) := by decide +kernel
theorem d_La_law_988 : decode b_La_law 988 = .ok (.aload_n 0, 1) := by decide +kernel
theorem d_La_law_989 : decode b_La_law 989 = .ok (.iload 4, 2) := by decide +kernel
theorem d_La_law_991 : decode b_La_law 991 = .ok (.iconst 1, 1) := by decide +kernel
theorem d_La_law_992 : decode b_La_law 992 = .ok (.iadd, 1) := by decide +kernel
theorem d_La_law_993 : decode b_La_law 993 = .ok (.iaload, 1) := by decide +kernel
theorem d_La_law_994 : decode b_La_law 994 = .ok (.aload_n 0, 1) := by decide +kernel
theorem d_La_law_995 : decode b_La_law 995 = .ok (.iload 4, 2) := by decide +kernel
theorem d_La_law_997 : decode b_La_law 997 = .ok (.iconst 2, 1) := by decide +kernel
theorem d_La_law_998 : decode b_La_law 998 = .ok (.iadd, 1) := by decide +kernel
theorem d_La_law_999 : decode b_La_law 999 = .ok (.iaload, 1) := by decide +kernel
theorem d_La_law_1000 : decode b_La_law 1000 = .ok (.invokevirtual 126, 3) := by decide +kernel
theorem d_La_law_1003 : decode b_La_law 1003 = .ok (.istore 6, 2) := by decide +kernel
theorem d_La_law_1005 : decode b_La_law 1005 = .ok (.aload_n 2, 1) := by decide +kernel
theorem d_La_law_1006 : decode b_La_law 1006 = .ok (.invokevirtual 87, 3) := by decide +kernel
theorem d_La_law_1009 : decode b_La_law 1009 = .ok (.iload 5, 2) := by decide +kernel
theorem d_La_law_1011 : decode b_La_law 1011 = .ok (.if_icmp .eq 5, 3) := by decide +kernel
theorem d_La_law_1014 : decode b_La_law 1014 = .ok (.iconst 0, 1) := by decide +kernel
theorem d_La_law_1015 : decode b_La_law 1015 = .ok (.ireturn, 1) := by decide +kernel
theorem d_La_law_1016 : decode b_La_law 1016 = .ok (.iload 5, 2) := by decide +kernel
theorem d_La_law_1018 : decode b_La_law 1018 = .ok (.ifCond .ne 15, 3) := by decide +kernel
theorem d_La_law_1021 : decode b_La_law 1021 = .ok (.aload_n 3, 1) := by decide +kernel
theorem d_La_law_1022 : decode b_La_law 1022 = .ok (.iconst 0, 1) := by decide +kernel
theorem d_La_law_1023 : decode b_La_law 1023 = .ok (.laload, 1) := by decide +kernel
theorem d_La_law_1024 : decode b_La_law 1024 = .ok (.iload 6, 2) := by decide +kernel
theorem d_La_law_1026 : decode b_La_law 1026 = .ok (.i2l, 1) := by decide +kernel
theorem d_La_law_1027 : decode b_La_law 1027 = .ok (.lcmp, 1) := by decide +kernel
theorem d_La_law_1028 : decode b_La_law 1028 = .ok (.ifCond .eq 5, 3) := by decide +kernel
theorem d_La_law_1031 : decode b_La_law 1031 = .ok (.iconst 0, 1) := by decide +kernel
theorem d_La_law_1032 : decode b_La_law 1032 = .ok (.ireturn, 1) := by decide +kernel
theorem d_La_law_1033 : decode b_La_law 1033 = .ok (.goto 362, 3) := by decide +kernel
theorem d_La_law_1036 : decode b_La_law 1036 = .ok (.aload_n 1, 1) := by decide +kernel
theorem d_La_law_1037 : decode b_La_law 1037 = .ok (.aload_n 0, 1) := by decide +kernel
theorem d_La_law_1038 : decode b_La_law 1038 = .ok (.iload 4, 2) := by decide +kernel
theorem d_La_law_1040 : decode b_La_law 1040 = .ok (.iconst 1, 1) := by decide +kernel
theorem d_La_law_1041 : decode b_La_law 1041 = .ok (.iadd, 1) := by decide +kernel
theorem d_La_law_1042 : decode b_La_law 1042 = .ok (.iaload, 1) := by decide +kernel
theorem d_La_law_1043 : decode b_La_law 1043 = .ok (.aload_n 3, 1) := by decide +kernel
theorem d_La_law_1044 : decode b_La_law 1044 = .ok (.invokestatic 127, 3) := by decide +kernel
theorem d_La_law_1047 : decode b_La_law 1047 = .ok (.istore 5, 2) := by decide +kernel
theorem d_La_law_1049 : decode b_La_law 1049 = .ok (.aload_n 2, 1) := by decide +kernel
theorem d_La_law_1050 : decode b_La_law 1050 = .ok (.aload_n 0, 1) := by decide +kernel
theorem d_La_law_1051 : decode b_La_law 1051 = .ok (.iload 4, 2) := by decide +kernel
theorem d_La_law_1053 : decode b_La_law 1053 = .ok (.iconst 1, 1) := by decide +kernel
theorem d_La_law_1054 : decode b_La_law 1054 = .ok (.iadd, 1) := by decide +kernel
theorem d_La_law_1055 : decode b_La_law 1055 = .ok (.iaload, 1) := by decide +kernel
theorem d_La_law_1056 : decode b_La_law 1056 = .ok (.invokevirtual 129, 3) := by decide +kernel
theorem d_La_law_1059 : decode b_La_law 1059 = .ok (.istore 6, 2) := by decide +kernel
theorem d_La_law_1061 : decode b_La_law 1061 = .ok (.aload_n 2, 1) := by decide +kernel
theorem d_La_law_1062 : decode b_La_law 1062 = .ok (.invokevirtual 87, 3) := by decide +kernel
theorem d_La_law_1065 : decode b_La_law 1065 = .ok (.iload 5, 2) := by decide +kernel
theorem d_La_law_1067 : decode b_La_law 1067 = .ok (.if_icmp .eq 5, 3) := by decide +kernel
theorem d_La_law_1070 : decode b_La_law 1070 = .ok (.iconst 0, 1) := by decide +kernel
theorem d_La_law_1071 : decode b_La_law 1071 = .ok (.ireturn, 1) := by decide +kernel
theorem d_La_law_1072 : decode b_La_law 1072 = .ok (.iload 5, 2) := by decide +kernel
theorem d_La_law_1074 : decode b_La_law 1074 = .ok (.ifCond .ne 15, 3) := by decide +kernel
theorem d_La_law_1077 : decode b_La_law 1077 = .ok (.aload_n 3, 1) := by decide +kernel
theorem d_La_law_1078 : decode b_La_law 1078 = .ok (.iconst 0, 1) := by decide +kernel
theorem d_La_law_1079 : decode b_La_law 1079 = .ok (.laload, 1) := by decide +kernel
theorem d_La_law_1080 : decode b_La_law 1080 = .ok (.iload 6, 2) := by decide +kernel
theorem d_La_law_1082 : decode b_La_law 1082 = .ok (.i2l, 1) := by decide +kernel
theorem d_La_law_1083 : decode b_La_law 1083 = .ok (.lcmp, 1) := by decide +kernel
theorem d_La_law_1084 : decode b_La_law 1084 = .ok (.ifCond .eq 5, 3) := by decide +kernel
theorem d_La_law_1087 : decode b_La_law 1087 = .ok (.iconst 0, 1) := by decide +kernel
theorem d_La_law_1088 : decode b_La_law 1088 = .ok (.ireturn, 1) := by decide +kernel
theorem d_La_law_1089 : decode b_La_law 1089 = .ok (.goto 306, 3) := by decide +kernel
theorem d_La_law_1092 : decode b_La_law 1092 = .ok (.aload_n 1, 1) := by decide +kernel
theorem d_La_law_1093 : decode b_La_law 1093 = .ok (.aload_n 0, 1) := by decide +kernel
theorem d_La_law_1094 : decode b_La_law 1094 = .ok (.iload 4, 2) := by decide +kernel
theorem d_La_law_1096 : decode b_La_law 1096 = .ok (.iconst 1, 1) := by decide +kernel
theorem d_La_law_1097 : decode b_La_law 1097 = .ok (.iadd, 1) := by decide +kernel
theorem d_La_law_1098 : decode b_La_law 1098 = .ok (.iaload, 1) := by decide +kernel
theorem d_La_law_1099 : decode b_La_law 1099 = .ok (.aload_n 0, 1) := by decide +kernel
theorem d_La_law_1100 : decode b_La_law 1100 = .ok (.iload 4, 2) := by decide +kernel
theorem d_La_law_1102 : decode b_La_law 1102 = .ok (.iconst 2, 1) := by decide +kernel
theorem d_La_law_1103 : decode b_La_law 1103 = .ok (.iadd, 1) := by decide +kernel
theorem d_La_law_1104 : decode b_La_law 1104 = .ok (.iaload, 1) := by decide +kernel
theorem d_La_law_1105 : decode b_La_law 1105 = .ok (.aload_n 3, 1) := by decide +kernel
theorem d_La_law_1106 : decode b_La_law 1106 = .ok (.invokestatic 130, 3) := by decide +kernel
theorem d_La_law_1109 : decode b_La_law 1109 = .ok (.istore 5, 2) := by decide +kernel
theorem d_La_law_1111 : decode b_La_law 1111 = .ok (.aload_n 2, 1) := by decide +kernel
theorem d_La_law_1112 : decode b_La_law 1112 = .ok (.aload_n 0, 1) := by decide +kernel
theorem d_La_law_1113 : decode b_La_law 1113 = .ok (.iload 4, 2) := by decide +kernel
theorem d_La_law_1115 : decode b_La_law 1115 = .ok (.iconst 1, 1) := by decide +kernel
theorem d_La_law_1116 : decode b_La_law 1116 = .ok (.iadd, 1) := by decide +kernel
theorem d_La_law_1117 : decode b_La_law 1117 = .ok (.iaload, 1) := by decide +kernel
theorem d_La_law_1118 : decode b_La_law 1118 = .ok (.aload_n 0, 1) := by decide +kernel
theorem d_La_law_1119 : decode b_La_law 1119 = .ok (.iload 4, 2) := by decide +kernel
theorem d_La_law_1121 : decode b_La_law 1121 = .ok (.iconst 2, 1) := by decide +kernel
theorem d_La_law_1122 : decode b_La_law 1122 = .ok (.iadd, 1) := by decide +kernel
theorem d_La_law_1123 : decode b_La_law 1123 = .ok (.iaload, 1) := by decide +kernel
theorem d_La_law_1124 : decode b_La_law 1124 = .ok (.invokevirtual 132, 3) := by decide +kernel
theorem d_La_law_1127 : decode b_La_law 1127 = .ok (.istore 6, 2) := by decide +kernel
theorem d_La_law_1129 : decode b_La_law 1129 = .ok (.aload_n 2, 1) := by decide +kernel
theorem d_La_law_1130 : decode b_La_law 1130 = .ok (.invokevirtual 87, 3) := by decide +kernel
theorem d_La_law_1133 : decode b_La_law 1133 = .ok (.iload 5, 2) := by decide +kernel
theorem d_La_law_1135 : decode b_La_law 1135 = .ok (.if_icmp .eq 5, 3) := by decide +kernel
theorem d_La_law_1138 : decode b_La_law 1138 = .ok (.iconst 0, 1) := by decide +kernel
theorem d_La_law_1139 : decode b_La_law 1139 = .ok (.ireturn, 1) := by decide +kernel
theorem d_La_law_1140 : decode b_La_law 1140 = .ok (.iload 5, 2) := by decide +kernel
theorem d_La_law_1142 : decode b_La_law 1142 = .ok (.ifCond .ne 15, 3) := by decide +kernel
theorem d_La_law_1145 : decode b_La_law 1145 = .ok (.aload_n 3, 1) := by decide +kernel
theorem d_La_law_1146 : decode b_La_law 1146 = .ok (.iconst 0, 1) := by decide +kernel
theorem d_La_law_1147 : decode b_La_law 1147 = .ok (.laload, 1) := by decide +kernel
theorem d_La_law_1148 : decode b_La_law 1148 = .ok (.iload 6, 2) := by decide +kernel
theorem d_La_law_1150 : decode b_La_law 1150 = .ok (.i2l, 1) := by decide +kernel
theorem d_La_law_1151 : decode b_La_law 1151 = .ok (.lcmp, 1) := by decide +kernel
theorem d_La_law_1152 : decode b_La_law 1152 = .ok (.ifCond .eq 5, 3) := by decide +kernel
theorem d_La_law_1155 : decode b_La_law 1155 = .ok (.iconst 0, 1) := by decide +kernel
theorem d_La_law_1156 : decode b_La_law 1156 = .ok (.ireturn, 1) := by decide +kernel
theorem d_La_law_1157 : decode b_La_law 1157 = .ok (.goto 238, 3) := by decide +kernel
theorem d_La_law_1160 : decode b_La_law 1160 = .ok (.aload_n 1, 1) := by decide +kernel
theorem d_La_law_1161 : decode b_La_law 1161 = .ok (.aload_n 0, 1) := by decide +kernel
theorem d_La_law_1162 : decode b_La_law 1162 = .ok (.iload 4, 2) := by decide +kernel
theorem d_La_law_1164 : decode b_La_law 1164 = .ok (.iconst 1, 1) := by decide +kernel
theorem d_La_law_1165 : decode b_La_law 1165 = .ok (.iadd, 1) := by decide +kernel
theorem d_La_law_1166 : decode b_La_law 1166 = .ok (.iaload, 1) := by decide +kernel
theorem d_La_law_1167 : decode b_La_law 1167 = .ok (.aload_n 3, 1) := by decide +kernel
theorem d_La_law_1168 : decode b_La_law 1168 = .ok (.invokestatic 133, 3) := by decide +kernel
theorem d_La_law_1171 : decode b_La_law 1171 = .ok (.istore 5, 2) := by decide +kernel
theorem d_La_law_1173 : decode b_La_law 1173 = .ok (.aload_n 2, 1) := by decide +kernel
theorem d_La_law_1174 : decode b_La_law 1174 = .ok (.aload_n 0, 1) := by decide +kernel
theorem d_La_law_1175 : decode b_La_law 1175 = .ok (.iload 4, 2) := by decide +kernel
theorem d_La_law_1177 : decode b_La_law 1177 = .ok (.iconst 1, 1) := by decide +kernel
theorem d_La_law_1178 : decode b_La_law 1178 = .ok (.iadd, 1) := by decide +kernel
theorem d_La_law_1179 : decode b_La_law 1179 = .ok (.iaload, 1) := by decide +kernel
theorem d_La_law_1180 : decode b_La_law 1180 = .ok (.invokevirtual 135, 3) := by decide +kernel
theorem d_La_law_1183 : decode b_La_law 1183 = .ok (.istore 6, 2) := by decide +kernel
theorem d_La_law_1185 : decode b_La_law 1185 = .ok (.aload_n 2, 1) := by decide +kernel
theorem d_La_law_1186 : decode b_La_law 1186 = .ok (.invokevirtual 87, 3) := by decide +kernel
theorem d_La_law_1189 : decode b_La_law 1189 = .ok (.iload 5, 2) := by decide +kernel
theorem d_La_law_1191 : decode b_La_law 1191 = .ok (.if_icmp .eq 5, 3) := by decide +kernel
theorem d_La_law_1194 : decode b_La_law 1194 = .ok (.iconst 0, 1) := by decide +kernel
theorem d_La_law_1195 : decode b_La_law 1195 = .ok (.ireturn, 1) := by decide +kernel
theorem d_La_law_1196 : decode b_La_law 1196 = .ok (.iload 5, 2) := by decide +kernel
theorem d_La_law_1198 : decode b_La_law 1198 = .ok (.ifCond .ne 15, 3) := by decide +kernel
theorem d_La_law_1201 : decode b_La_law 1201 = .ok (.aload_n 3, 1) := by decide +kernel
theorem d_La_law_1202 : decode b_La_law 1202 = .ok (.iconst 0, 1) := by decide +kernel
theorem d_La_law_1203 : decode b_La_law 1203 = .ok (.laload, 1) := by decide +kernel
theorem d_La_law_1204 : decode b_La_law 1204 = .ok (.iload 6, 2) := by decide +kernel
theorem d_La_law_1206 : decode b_La_law 1206 = .ok (.i2l, 1) := by decide +kernel
theorem d_La_law_1207 : decode b_La_law 1207 = .ok (.lcmp, 1) := by decide +kernel
theorem d_La_law_1208 : decode b_La_law 1208 = .ok (.ifCond .eq 5, 3) := by decide +kernel
theorem d_La_law_1211 : decode b_La_law 1211 = .ok (.iconst 0, 1) := by decide +kernel
theorem d_La_law_1212 : decode b_La_law 1212 = .ok (.ireturn, 1) := by decide +kernel
theorem d_La_law_1213 : decode b_La_law 1213 = .ok (.goto 182, 3) := by decide +kernel
theorem d_La_law_1216 : decode b_La_law 1216 = .ok (.aload_n 1, 1) := by decide +kernel
theorem d_La_law_1217 : decode b_La_law 1217 = .ok (.aload_n 0, 1) := by decide +kernel
theorem d_La_law_1218 : decode b_La_law 1218 = .ok (.iload 4, 2) := by decide +kernel
theorem d_La_law_1220 : decode b_La_law 1220 = .ok (.iconst 1, 1) := by decide +kernel
theorem d_La_law_1221 : decode b_La_law 1221 = .ok (.iadd, 1) := by decide +kernel
theorem d_La_law_1222 : decode b_La_law 1222 = .ok (.iaload, 1) := by decide +kernel
theorem d_La_law_1223 : decode b_La_law 1223 = .ok (.aload_n 0, 1) := by decide +kernel
theorem d_La_law_1224 : decode b_La_law 1224 = .ok (.iload 4, 2) := by decide +kernel
theorem d_La_law_1226 : decode b_La_law 1226 = .ok (.iconst 2, 1) := by decide +kernel
theorem d_La_law_1227 : decode b_La_law 1227 = .ok (.iadd, 1) := by decide +kernel
theorem d_La_law_1228 : decode b_La_law 1228 = .ok (.iaload, 1) := by decide +kernel
theorem d_La_law_1229 : decode b_La_law 1229 = .ok (.aload_n 3, 1) := by decide +kernel
theorem d_La_law_1230 : decode b_La_law 1230 = .ok (.invokestatic 136, 3) := by decide +kernel
theorem d_La_law_1233 : decode b_La_law 1233 = .ok (.istore 5, 2) := by decide +kernel
theorem d_La_law_1235 : decode b_La_law 1235 = .ok (.aload_n 2, 1) := by decide +kernel
theorem d_La_law_1236 : decode b_La_law 1236 = .ok (.aload_n 0, 1) := by decide +kernel
theorem d_La_law_1237 : decode b_La_law 1237 = .ok (.iload 4, 2) := by decide +kernel
theorem d_La_law_1239 : decode b_La_law 1239 = .ok (.iconst 1, 1) := by decide +kernel
theorem d_La_law_1240 : decode b_La_law 1240 = .ok (.iadd, 1) := by decide +kernel
theorem d_La_law_1241 : decode b_La_law 1241 = .ok (.iaload, 1) := by decide +kernel
theorem d_La_law_1242 : decode b_La_law 1242 = .ok (.aload_n 0, 1) := by decide +kernel
theorem d_La_law_1243 : decode b_La_law 1243 = .ok (.iload 4, 2) := by decide +kernel
theorem d_La_law_1245 : decode b_La_law 1245 = .ok (.iconst 2, 1) := by decide +kernel
theorem d_La_law_1246 : decode b_La_law 1246 = .ok (.iadd, 1) := by decide +kernel
theorem d_La_law_1247 : decode b_La_law 1247 = .ok (.iaload, 1) := by decide +kernel
theorem d_La_law_1248 : decode b_La_law 1248 = .ok (.invokevirtual 138, 3) := by decide +kernel
theorem d_La_law_1251 : decode b_La_law 1251 = .ok (.istore 6, 2) := by decide +kernel
theorem d_La_law_1253 : decode b_La_law 1253 = .ok (.aload_n 2, 1) := by decide +kernel
theorem d_La_law_1254 : decode b_La_law 1254 = .ok (.invokevirtual 87, 3) := by decide +kernel
theorem d_La_law_1257 : decode b_La_law 1257 = .ok (.iload 5, 2) := by decide +kernel
theorem d_La_law_1259 : decode b_La_law 1259 = .ok (.if_icmp .eq 5, 3) := by decide +kernel
theorem d_La_law_1262 : decode b_La_law 1262 = .ok (.iconst 0, 1) := by decide +kernel
theorem d_La_law_1263 : decode b_La_law 1263 = .ok (.ireturn, 1) := by decide +kernel
theorem d_La_law_1264 : decode b_La_law 1264 = .ok (.iload 5, 2) := by decide +kernel
theorem d_La_law_1266 : decode b_La_law 1266 = .ok (.ifCond .ne 15, 3) := by decide +kernel
theorem d_La_law_1269 : decode b_La_law 1269 = .ok (.aload_n 3, 1) := by decide +kernel
theorem d_La_law_1270 : decode b_La_law 1270 = .ok (.iconst 0, 1) := by decide +kernel
theorem d_La_law_1271 : decode b_La_law 1271 = .ok (.laload, 1) := by decide +kernel
theorem d_La_law_1272 : decode b_La_law 1272 = .ok (.iload 6, 2) := by decide +kernel
theorem d_La_law_1274 : decode b_La_law 1274 = .ok (.i2l, 1) := by decide +kernel
theorem d_La_law_1275 : decode b_La_law 1275 = .ok (.lcmp, 1) := by decide +kernel
theorem d_La_law_1276 : decode b_La_law 1276 = .ok (.ifCond .eq 5, 3) := by decide +kernel
theorem d_La_law_1279 : decode b_La_law 1279 = .ok (.iconst 0, 1) := by decide +kernel
theorem d_La_law_1280 : decode b_La_law 1280 = .ok (.ireturn, 1) := by decide +kernel
theorem d_La_law_1281 : decode b_La_law 1281 = .ok (.goto 114, 3) := by decide +kernel
theorem d_La_law_1284 : decode b_La_law 1284 = .ok (.aload_n 1, 1) := by decide +kernel
theorem d_La_law_1285 : decode b_La_law 1285 = .ok (.aload_n 0, 1) := by decide +kernel
theorem d_La_law_1286 : decode b_La_law 1286 = .ok (.iload 4, 2) := by decide +kernel
theorem d_La_law_1288 : decode b_La_law 1288 = .ok (.iconst 1, 1) := by decide +kernel
theorem d_La_law_1289 : decode b_La_law 1289 = .ok (.iadd, 1) := by decide +kernel
theorem d_La_law_1290 : decode b_La_law 1290 = .ok (.iaload, 1) := by decide +kernel
theorem d_La_law_1291 : decode b_La_law 1291 = .ok (.aload_n 3, 1) := by decide +kernel
theorem d_La_law_1292 : decode b_La_law 1292 = .ok (.invokestatic 139, 3) := by decide +kernel
theorem d_La_law_1295 : decode b_La_law 1295 = .ok (.istore 5, 2) := by decide +kernel
theorem d_La_law_1297 : decode b_La_law 1297 = .ok (.aload_n 2, 1) := by decide +kernel
theorem d_La_law_1298 : decode b_La_law 1298 = .ok (.aload_n 0, 1) := by decide +kernel
theorem d_La_law_1299 : decode b_La_law 1299 = .ok (.iload 4, 2) := by decide +kernel
theorem d_La_law_1301 : decode b_La_law 1301 = .ok (.iconst 1, 1) := by decide +kernel
theorem d_La_law_1302 : decode b_La_law 1302 = .ok (.iadd, 1) := by decide +kernel
theorem d_La_law_1303 : decode b_La_law 1303 = .ok (.iaload, 1) := by decide +kernel
theorem d_La_law_1304 : decode b_La_law 1304 = .ok (.invokevirtual 141, 3) := by decide +kernel
theorem d_La_law_1307 : decode b_La_law 1307 = .ok (.istore 6, 2) := by decide +kernel
theorem d_La_law_1309 : decode b_La_law 1309 = .ok (.aload_n 2, 1) := by decide +kernel
theorem d_La_law_1310 : decode b_La_law 1310 = .ok (.invokevirtual 87, 3) := by decide +kernel
theorem d_La_law_1313 : decode b_La_law 1313 = .ok (.iload 5, 2) := by decide +kernel
theorem d_La_law_1315 : decode b_La_law 1315 = .ok (.if_icmp .eq 5, 3) := by decide +kernel
theorem d_La_law_1318 : decode b_La_law 1318 = .ok (.iconst 0, 1) := by decide +kernel
theorem d_La_law_1319 : decode b_La_law 1319 = .ok (.ireturn, 1) := by decide +kernel
theorem d_La_law_1320 : decode b_La_law 1320 = .ok (.iload 5, 2) := by decide +kernel
theorem d_La_law_1322 : decode b_La_law 1322 = .ok (.ifCond .ne 15, 3) := by decide +kernel
theorem d_La_law_1325 : decode b_La_law 1325 = .ok (.aload_n 3, 1) := by decide +kernel
theorem d_La_law_1326 : decode b_La_law 1326 = .ok (.iconst 0, 1) := by decide +kernel
theorem d_La_law_1327 : decode b_La_law 1327 = .ok (.laload, 1) := by decide +kernel
theorem d_La_law_1328 : decode b_La_law 1328 = .ok (.iload 6, 2) := by decide +kernel
theorem d_La_law_1330 : decode b_La_law 1330 = .ok (.i2l, 1) := by decide +kernel
theorem d_La_law_1331 : decode b_La_law 1331 = .ok (.lcmp, 1) := by decide +kernel
theorem d_La_law_1332 : decode b_La_law 1332 = .ok (.ifCond .eq 5, 3) := by decide +kernel
theorem d_La_law_1335 : decode b_La_law 1335 = .ok (.iconst 0, 1) := by decide +kernel
theorem d_La_law_1336 : decode b_La_law 1336 = .ok (.ireturn, 1) := by decide +kernel
theorem d_La_law_1337 : decode b_La_law 1337 = .ok (.goto 58, 3) := by decide +kernel
theorem d_La_law_1340 : decode b_La_law 1340 = .ok (.aload_n 1, 1) := by decide +kernel
theorem d_La_law_1341 : decode b_La_law 1341 = .ok (.invokevirtual 142, 3) := by decide +kernel
theorem d_La_law_1344 : decode b_La_law 1344 = .ok (.aload_n 2, 1) := by decide +kernel
theorem d_La_law_1345 : decode b_La_law 1345 = .ok (.invokevirtual 145, 3) := by decide +kernel
theorem d_La_law_1348 : decode b_La_law 1348 = .ok (.goto 47, 3) := by decide +kernel
theorem d_La_law_1351 : decode b_La_law 1351 = .ok (.aload_n 1, 1) := by decide +kernel
theorem d_La_law_1352 : decode b_La_law 1352 = .ok (.aload_n 3, 1) := by decide +kernel
theorem d_La_law_1353 : decode b_La_law 1353 = .ok (.invokestatic 146, 3) := by decide +kernel
theorem d_La_law_1356 : decode b_La_law 1356 = .ok (.istore 5, 2) := by decide +kernel
theorem d_La_law_1358 : decode b_La_law 1358 = .ok (.aload_n 2, 1) := by decide +kernel
theorem d_La_law_1359 : decode b_La_law 1359 = .ok (.invokevirtual 149, 3) := by decide +kernel
theorem d_La_law_1362 : decode b_La_law 1362 = .ok (.istore 6, 2) := by decide +kernel
theorem d_La_law_1364 : decode b_La_law 1364 = .ok (.aload_n 2, 1) := by decide +kernel
theorem d_La_law_1365 : decode b_La_law 1365 = .ok (.invokevirtual 87, 3) := by decide +kernel
theorem d_La_law_1368 : decode b_La_law 1368 = .ok (.iload 5, 2) := by decide +kernel
theorem d_La_law_1370 : decode b_La_law 1370 = .ok (.if_icmp .eq 5, 3) := by decide +kernel
theorem d_La_law_1373 : decode b_La_law 1373 = .ok (.iconst 0, 1) := by decide +kernel
theorem d_La_law_1374 : decode b_La_law 1374 = .ok (.ireturn, 1) := by decide +kernel
theorem d_La_law_1375 : decode b_La_law 1375 = .ok (.iload 5, 2) := by decide +kernel
theorem d_La_law_1377 : decode b_La_law 1377 = .ok (.ifCond .ne 15, 3) := by decide +kernel
theorem d_La_law_1380 : decode b_La_law 1380 = .ok (.aload_n 3, 1) := by decide +kernel
theorem d_La_law_1381 : decode b_La_law 1381 = .ok (.iconst 0, 1) := by decide +kernel
theorem d_La_law_1382 : decode b_La_law 1382 = .ok (.laload, 1) := by decide +kernel
theorem d_La_law_1383 : decode b_La_law 1383 = .ok (.iload 6, 2) := by decide +kernel
theorem d_La_law_1385 : decode b_La_law 1385 = .ok (.i2l, 1) := by decide +kernel
theorem d_La_law_1386 : decode b_La_law 1386 = .ok (.lcmp, 1) := by decide +kernel
theorem d_La_law_1387 : decode b_La_law 1387 = .ok (.ifCond .eq 5, 3) := by decide +kernel
theorem d_La_law_1390 : decode b_La_law 1390 = .ok (.iconst 0, 1) := by decide +kernel
theorem d_La_law_1391 : decode b_La_law 1391 = .ok (.ireturn, 1) := by decide +kernel
theorem d_La_law_1392 : decode b_La_law 1392 = .ok (.goto 3, 3) := by decide +kernel
theorem d_La_law_1395 : decode b_La_law 1395 = .ok (.iinc 4 8, 3) := by decide +kernel
theorem d_La_law_1398 : decode b_La_law 1398 = .ok (.goto (-1375), 3) := by decide +kernel
theorem d_La_law_1401 : decode b_La_law 1401 = .ok (.iconst 1, 1) := by decide +kernel
theorem d_La_law_1402 : decode b_La_law 1402 = .ok (.ireturn, 1) := by decide +kernel
end
section
/-! what lies where: tags 0..11 the desk, 12 the law's out, 13..32 the reference, 40+s a stratum, 50+s its known, 60+s its list, 100+i a site, 110..150+i its rows, 200+8i+k a reserve, 300+8i+k its kits -/
abbrev zSt : Type := (Nat → Nat) × (Nat → Nat → Int64) × (Nat → Nat → Int32)
def stM (S : zSt) (t j : Nat) (v : Int32) : zSt := (S.1, S.2.1, fun u => if u = t then upd (S.2.2 t) j v else S.2.2 u)
def stL (S : zSt) (t j : Nat) (v : Int64) : zSt := (S.1, fun u => if u = t then vp_updL (S.2.1 t) j v else S.2.1 u, S.2.2)
/-- which tags are there: all but those of sites that were never opened (row 9 tells) -/
def zdom (o : Nat → Int32) (t : Nat) : Bool := decide (t ≤ 32) || (decide (40 ≤ t ∧ t < 48) || (decide (50 ≤ t ∧ t < 58) || (decide (60 ≤ t ∧ t < 68) || (decide (100 ≤ t ∧ t < 160) && decide (o ((t - 100) % 10) ≠ 0) || (decide (200 ≤ t ∧ t < 280) && decide (o ((t - 200) / 8) ≠ 0) || (decide (300 ≤ t ∧ t < 380) && decide (o ((t - 300) / 8) ≠ 0)))))))
def zar (K : Nat → ClassId) (N : Nat) (f : Nat → Int32) : va_E := .inl (K 0, N, .inl f)
def bodyA (K : Nat → ClassId) (ad : Nat → Nat) (g : Nat → Int64) (f : Nat → Int32) (t : Nat) : va_E := match t with
  | 0 => .inr (0, [.ref (ad 1), .ref (ad 3), .ref (ad 4), .ref (ad 9), .ref (ad 10), .ref (ad 11), .int (f 6), .int (f 7)])
  | 1 => .inr (2, [.ref (ad 2), .int (f 1), .int (f 2), .int (f 3)])
  | 2 => .inl (K 0, 4, .inl f)
  | 3 => .inr (1, [.int (f 0), .int (f 1), .int (f 2)])
  | 4 => .inr (4, [.ref (ad 5), .ref (ad 6), .ref (ad 7), .ref (ad 8)])
  | 5 => .inl (K 0, 1000, .inl f)
  | 6 => .inl (K 0, 1000, .inl f)
  | 7 => .inl (K 0, 1000, .inl f)
  | 8 => .inl (K 0, 1000, .inl f)
  | 9 => .inl (K 3, 10, .inr (.inr (.inr (.inr (fun i => if f i = 0 then none else some (ad (100 + i)))))))
  | 10 => .inl (K 4, 8, .inr (.inr (.inr (.inr (fun i => some (ad (40 + i)))))))
  | 11 => .inl (K 0, 24, .inl f)
  | 12 => .inl (K 1, 1, .inr (.inl g))
  | 13 => .inr (7, [.int (f 0), .int (f 1), .int (f 2), .int (f 3), .int (f 4), .int (f 5), .int (f 6), .long (g 7), .ref (ad 14), .int (f 9), .ref (ad 15), .ref (ad 16), .ref (ad 17), .ref (ad 18), .ref (ad 19), .ref (ad 20), .ref (ad 21), .ref (ad 22), .ref (ad 23), .ref (ad 24), .ref (ad 25), .ref (ad 26), .ref (ad 27), .ref (ad 28), .ref (ad 29), .ref (ad 30), .ref (ad 31), .ref (ad 32)])
  | 14 => .inl (K 0, 4, .inl f)
  | 15 => .inl (K 0, 4200, .inl f)
  | 16 => .inl (K 2, 100800, .inl f)
  | 17 => .inl (K 0, 8, .inl f)
  | 18 => .inl (K 1, 8, .inr (.inl g))
  | 19 => .inl (K 0, 8, .inl f)
  | 20 => .inl (K 0, 8, .inl f)
  | 21 => .inl (K 0, 10, .inl f)
  | 22 => .inl (K 0, 1000, .inl f)
  | 23 => .inl (K 0, 1000, .inl f)
  | 24 => .inl (K 0, 1000, .inl f)
  | 25 => .inl (K 0, 1000, .inl f)
  | 26 => .inl (K 0, 1000, .inl f)
  | 27 => .inl (K 0, 1000, .inl f)
  | 28 => .inl (K 0, 1000, .inl f)
  | 29 => .inl (K 0, 1000, .inl f)
  | 30 => .inl (K 0, 80, .inl f)
  | 31 => .inl (K 0, 80, .inl f)
  | _ => .inl (K 0, 1920, .inl f)
def bodyX (K : Nat → ClassId) (ad : Nat → Nat) (n : Nat) (g : Nat → Int64) (f : Nat → Int32) (t : Nat) : va_E :=
  if t < 40 then bodyA K ad g f t
  else if t < 50 then .inr (6, [.ref (ad 1), .int (f 1), .ref (ad (t + 10)), .ref (ad (t + 20)), .long (g 4), .int (f 5), .int (f 6), .int (f 7), .int (f 8)])
  else if t < 60 then .inl (K 0, 4, .inl f)
  else if t < 100 then .inl (K 0, n, .inl f)
  else if t < 110 then .inr (5, [.ref (ad (t + 10)), .ref (ad (t + 20)), .ref (ad (t + 30)), .ref (ad (t + 40)), .ref (ad (t + 50)), .int (f 5)])
  else if t < 150 then .inl (K 0, 100, .inl f)
  else if t < 160 then .inl (K 5, 8, .inr (.inr (.inr (.inr (fun i => some (ad (200 + 8 * (t - 150) + i)))))))
  else if t < 300 then .inr (3, [.ref (ad (t + 100)), .int (f 1), .int (f 2)])
  else .inl (K 0, 24, .inl f)
def Lay (K : Nat → ClassId) (ad : Nat → Nat) (S : zSt) : zW := fun t => if zdom (S.2.2 9) t = true then some (bodyX K ad (S.1 t) (S.2.1 t) (S.2.2 t) t) else none
abbrev ztyl (K : Nat → ClassId) : List (ClassId × FieldType) := [(K 0, .int), (K 1, .long), (K 2, .byte), (K 3, .object R_Si), (K 4, .object R_St), (K 5, .object R_Re)]
section LY
variable {K : Nat → ClassId} {ad : Nat → Nat} {S : zSt}
theorem stM_s {t j : Nat} {v : Int32} : (stM S t j v).2.2 t = upd (S.2.2 t) j v := if_pos rfl
theorem stM_n {t u j : Nat} {v : Int32} (h : u ≠ t) : (stM S t j v).2.2 u = S.2.2 u := if_neg h
theorem Lay_in {t : Nat} (h : zdom (S.2.2 9) t = true) : Lay K ad S t = some (bodyX K ad (S.1 t) (S.2.1 t) (S.2.2 t) t) := if_pos h
/-- a number is written: the picture differs at that tag alone -/
theorem Lay_put {t j : Nat} {v : Int32} {e : va_E} (h9 : t ≠ 9) (he : Lay K ad (stM S t j v) t = some e) : ∀ u, Lay K ad (stM S t j v) u = z_up (Lay K ad S) t e u := by
  intro u
  by_cases h : u = t
  · subst h
    rw [z_up_s]
    exact he
  · rw [z_up_n h]
    show (if zdom ((stM S t j v).2.2 9) u = true then some (bodyX K ad _ _ ((stM S t j v).2.2 u) u) else none) = _
    rw [stM_n (Ne.symm h9), stM_n h]
    rfl
theorem Lay_putL {t j : Nat} {v : Int64} {e : va_E} (he : Lay K ad (stL S t j v) t = some e) : ∀ u, Lay K ad (stL S t j v) u = z_up (Lay K ad S) t e u := by
  intro u
  by_cases h : u = t
  · subst h
    rw [z_up_s]
    exact he
  · rw [z_up_n h]
    show (if zdom (S.2.2 9) u = true then some (bodyX K ad _ ((stL S t j v).2.1 u) (S.2.2 u) u) else none) = _
    have : (stL S t j v).2.1 u = S.2.1 u := if_neg h
    rw [this]
    rfl
/-- the strata -/
theorem Lay_St {s : Nat} (hs : s < 8) : Lay K ad S (40 + s) = some (.inr (6, [.ref (ad 1), .int (S.2.2 (40 + s) 1), .ref (ad (50 + s)), .ref (ad (60 + s)), .long (S.2.1 (40 + s) 4), .int (S.2.2 (40 + s) 5), .int (S.2.2 (40 + s) 6), .int (S.2.2 (40 + s) 7), .int (S.2.2 (40 + s) 8)])) := by
  rw [Lay_in (by simp [zdom]; omega)]
  unfold bodyX
  rw [if_neg (by omega), if_pos (by omega), show 40 + s + 10 = 50 + s by omega, show 40 + s + 20 = 60 + s by omega]
theorem Lay_kn {s : Nat} (hs : s < 8) : Lay K ad S (50 + s) = some (.inl (K 0, 4, .inl (S.2.2 (50 + s)))) := by
  rw [Lay_in (by simp [zdom]; omega)]
  unfold bodyX
  rw [if_neg (by omega), if_neg (by omega), if_pos (by omega)]
theorem Lay_li {s : Nat} (hs : s < 8) : Lay K ad S (60 + s) = some (.inl (K 0, S.1 (60 + s), .inl (S.2.2 (60 + s)))) := by
  rw [Lay_in (by simp [zdom]; omega)]
  unfold bodyX
  rw [if_neg (by omega), if_neg (by omega), if_neg (by omega), if_pos (by omega)]
theorem zdom_a {o : Nat → Int32} {i r : Nat} (hi : i < 10) (hr : r < 6) (h : o i ≠ 0) : zdom o (100 + 10 * r + i) = true := by
  unfold zdom
  have e1 : (100 + 10 * r + i - 100) % 10 = i := by omega
  rw [e1]
  have : decide (o i ≠ 0) = true := by simpa using h
  have h2 : decide (100 ≤ 100 + 10 * r + i ∧ 100 + 10 * r + i < 160) = true := by simp; omega
  rw [this, h2]
  simp
theorem zdom_b {o : Nat → Int32} {i k : Nat} (hi : i < 10) (hk : k < 8) (h : o i ≠ 0) : zdom o (200 + 8 * i + k) = true := by
  unfold zdom
  have e1 : (200 + 8 * i + k - 200) / 8 = i := by omega
  rw [e1]
  have : decide (o i ≠ 0) = true := by simpa using h
  have h2 : decide (200 ≤ 200 + 8 * i + k ∧ 200 + 8 * i + k < 280) = true := by simp; omega
  rw [this, h2]
  simp
theorem zdom_c {o : Nat → Int32} {i k : Nat} (hi : i < 10) (hk : k < 8) (h : o i ≠ 0) : zdom o (300 + 8 * i + k) = true := by
  unfold zdom
  have e1 : (300 + 8 * i + k - 300) / 8 = i := by omega
  rw [e1]
  have : decide (o i ≠ 0) = true := by simpa using h
  have h2 : decide (300 ≤ 300 + 8 * i + k ∧ 300 + 8 * i + k < 380) = true := by simp; omega
  rw [this, h2]
  simp
/-- the sites -/
theorem Lay_Si {i : Nat} (hi : i < 10) (h : S.2.2 9 i ≠ 0) : Lay K ad S (100 + i) = some (.inr (5, [.ref (ad (110 + i)), .ref (ad (120 + i)), .ref (ad (130 + i)), .ref (ad (140 + i)), .ref (ad (150 + i)), .int (S.2.2 (100 + i) 5)])) := by
  rw [Lay_in (zdom_a (r := 0) hi (by omega) h)]
  unfold bodyX
  rw [if_neg (by omega), if_neg (by omega), if_neg (by omega), if_neg (by omega), if_pos (by omega), show 100 + i + 10 = 110 + i by omega, show 100 + i + 20 = 120 + i by omega, show 100 + i + 30 = 130 + i by omega, show 100 + i + 40 = 140 + i by omega, show 100 + i + 50 = 150 + i by omega]
theorem Lay_row {i r : Nat} (hi : i < 10) (hr : r < 4) (h : S.2.2 9 i ≠ 0) : Lay K ad S (110 + 10 * r + i) = some (.inl (K 0, 100, .inl (S.2.2 (110 + 10 * r + i)))) := by
  rw [Lay_in (by have := zdom_a (r := r + 1) hi (by omega) h; rwa [show 100 + 10 * (r + 1) + i = 110 + 10 * r + i by omega] at this)]
  unfold bodyX
  rw [if_neg (by omega), if_neg (by omega), if_neg (by omega), if_neg (by omega), if_neg (by omega), if_pos (by omega)]
theorem Lay_ress {i : Nat} (hi : i < 10) (h : S.2.2 9 i ≠ 0) : Lay K ad S (150 + i) = some (.inl (K 5, 8, .inr (.inr (.inr (.inr (fun k => some (ad (200 + 8 * i + k)))))))) := by
  rw [Lay_in (zdom_a (r := 5) hi (by omega) h)]
  unfold bodyX
  rw [if_neg (by omega), if_neg (by omega), if_neg (by omega), if_neg (by omega), if_neg (by omega), if_neg (by omega), if_pos (by omega), show 150 + i - 150 = i by omega]
theorem Lay_Re {i k : Nat} (hi : i < 10) (hk : k < 8) (h : S.2.2 9 i ≠ 0) : Lay K ad S (200 + 8 * i + k) = some (.inr (3, [.ref (ad (300 + 8 * i + k)), .int (S.2.2 (200 + 8 * i + k) 1), .int (S.2.2 (200 + 8 * i + k) 2)])) := by
  rw [Lay_in (zdom_b hi hk h)]
  unfold bodyX
  rw [if_neg (by omega), if_neg (by omega), if_neg (by omega), if_neg (by omega), if_neg (by omega), if_neg (by omega), if_neg (by omega), if_pos (by omega), show 200 + 8 * i + k + 100 = 300 + 8 * i + k by omega]
theorem Lay_ek {i k : Nat} (hi : i < 10) (hk : k < 8) (h : S.2.2 9 i ≠ 0) : Lay K ad S (300 + 8 * i + k) = some (.inl (K 0, 24, .inl (S.2.2 (300 + 8 * i + k)))) := by
  rw [Lay_in (zdom_c hi hk h)]
  unfold bodyX
  rw [if_neg (by omega), if_neg (by omega), if_neg (by omega), if_neg (by omega), if_neg (by omega), if_neg (by omega), if_neg (by omega), if_neg (by omega)]
end LY
/-- what a method of the system comes back with: the answer, and the numbers behind it -/
def zP (K : Nat → ClassId) (ad : Nat → Nat) (v : Option Value) (S : zSt) : zQ := fun r ad' ce' => r = .inl v ∧ ad' = ad ∧ ce' = Lay K ad S
/-- it throws, and nothing has changed -/
def zX0 (K : Nat → ClassId) (ad : Nat → Nat) (E : String) (S : zSt) : zQ := fun r ad' ce' => r = .inr E ∧ ad' = ad ∧ ce' = Lay K ad S
theorem t4_ok (K : Nat → ClassId) (ad : Nat → Nat) (S : zSt) : Lay K ad S 4 = some (.inr (4, [.ref (ad 5), .ref (ad 6), .ref (ad 7), .ref (ad 8)])) := rfl
theorem t7_ok (K : Nat → ClassId) (ad : Nat → Nat) (S : zSt) (k : Nat) (v : Int32) : Lay K ad (stM S 7 k v) 7 = some (.inl (K 0, 1000, .inl (upd (S.2.2 7) k v))) := rfl
theorem t3_ok (K : Nat → ClassId) (ad : Nat → Nat) (S : zSt) (v : Int32) : Lay K ad (stM S 3 1 v) 3 = some (.inr (1, [.int (S.2.2 3 0), .int v, .int (S.2.2 3 2)])) := rfl
end
section
section LZ
variable {K : Nat → ClassId} {ad : Nat → Nat} {S : zSt}
theorem stL_s {t j : Nat} {v : Int64} : (stL S t j v).2.1 t = vp_updL (S.2.1 t) j v := if_pos rfl
theorem stL_n {t u j : Nat} {v : Int64} (h : u ≠ t) : (stL S t j v).2.1 u = S.2.1 u := if_neg h
theorem stL_m {t j : Nat} {v : Int64} : (stL S t j v).2.2 = S.2.2 := rfl
theorem stM_l {t j : Nat} {v : Int32} : (stM S t j v).2.1 = S.2.1 := rfl
theorem stM_1 {t j : Nat} {v : Int32} : (stM S t j v).1 = S.1 := rfl
theorem Lay_r0 {i : Nat} (hi : i < 10) (h : S.2.2 9 i ≠ 0) : Lay K ad S (110 + i) = some (.inl (K 0, 100, .inl (S.2.2 (110 + i)))) := Lay_row (r := 0) hi (by omega) h
theorem Lay_r1 {i : Nat} (hi : i < 10) (h : S.2.2 9 i ≠ 0) : Lay K ad S (120 + i) = some (.inl (K 0, 100, .inl (S.2.2 (120 + i)))) := Lay_row (r := 1) hi (by omega) h
theorem Lay_r2 {i : Nat} (hi : i < 10) (h : S.2.2 9 i ≠ 0) : Lay K ad S (130 + i) = some (.inl (K 0, 100, .inl (S.2.2 (130 + i)))) := Lay_row (r := 2) hi (by omega) h
theorem Lay_r3 {i : Nat} (hi : i < 10) (h : S.2.2 9 i ≠ 0) : Lay K ad S (140 + i) = some (.inl (K 0, 100, .inl (S.2.2 (140 + i)))) := Lay_row (r := 3) hi (by omega) h
theorem put_r0 {i j : Nat} {v : Int32} (hi : i < 10) (h : S.2.2 9 i ≠ 0) : ∀ u, Lay K ad (stM S (110 + i) j v) u = z_up (Lay K ad S) (110 + i) (.inl (K 0, 100, .inl (upd (S.2.2 (110 + i)) j v))) u := Lay_put (by omega) (by rw [Lay_r0 hi (by rw [stM_n (by omega)]; exact h)]; rw [stM_s])
theorem put_r1 {i j : Nat} {v : Int32} (hi : i < 10) (h : S.2.2 9 i ≠ 0) : ∀ u, Lay K ad (stM S (120 + i) j v) u = z_up (Lay K ad S) (120 + i) (.inl (K 0, 100, .inl (upd (S.2.2 (120 + i)) j v))) u := Lay_put (by omega) (by rw [Lay_r1 hi (by rw [stM_n (by omega)]; exact h)]; rw [stM_s])
theorem put_r2 {i j : Nat} {v : Int32} (hi : i < 10) (h : S.2.2 9 i ≠ 0) : ∀ u, Lay K ad (stM S (130 + i) j v) u = z_up (Lay K ad S) (130 + i) (.inl (K 0, 100, .inl (upd (S.2.2 (130 + i)) j v))) u := Lay_put (by omega) (by rw [Lay_r2 hi (by rw [stM_n (by omega)]; exact h)]; rw [stM_s])
theorem put_r3 {i j : Nat} {v : Int32} (hi : i < 10) (h : S.2.2 9 i ≠ 0) : ∀ u, Lay K ad (stM S (140 + i) j v) u = z_up (Lay K ad S) (140 + i) (.inl (K 0, 100, .inl (upd (S.2.2 (140 + i)) j v))) u := Lay_put (by omega) (by rw [Lay_r3 hi (by rw [stM_n (by omega)]; exact h)]; rw [stM_s])
theorem put_ek {i k j : Nat} {v : Int32} (hi : i < 10) (hk : k < 8) (h : S.2.2 9 i ≠ 0) : ∀ u, Lay K ad (stM S (300 + 8 * i + k) j v) u = z_up (Lay K ad S) (300 + 8 * i + k) (.inl (K 0, 24, .inl (upd (S.2.2 (300 + 8 * i + k)) j v))) u := Lay_put (by omega) (by rw [Lay_ek hi hk (by rw [stM_n (by omega)]; exact h)]; rw [stM_s])
theorem put_kn {s j : Nat} {v : Int32} (hs : s < 8) : ∀ u, Lay K ad (stM S (50 + s) j v) u = z_up (Lay K ad S) (50 + s) (.inl (K 0, 4, .inl (upd (S.2.2 (50 + s)) j v))) u := Lay_put (by omega) (by rw [Lay_kn hs]; rw [stM_s])
theorem put_li {s j : Nat} {v : Int32} (hs : s < 8) : ∀ u, Lay K ad (stM S (60 + s) j v) u = z_up (Lay K ad S) (60 + s) (.inl (K 0, S.1 (60 + s), .inl (upd (S.2.2 (60 + s)) j v))) u := Lay_put (by omega) (by rw [Lay_li hs]; rw [stM_s]; rfl)
theorem put_Si {i : Nat} {v : Int32} (hi : i < 10) (h : S.2.2 9 i ≠ 0) : ∀ u, Lay K ad (stM S (100 + i) 5 v) u = z_up (Lay K ad S) (100 + i) (.inr (5, [.ref (ad (110 + i)), .ref (ad (120 + i)), .ref (ad (130 + i)), .ref (ad (140 + i)), .ref (ad (150 + i)), .int v])) u := Lay_put (by omega) (by rw [Lay_Si hi (by rw [stM_n (by omega)]; exact h)]; rw [stM_s]; rfl)
theorem put_Re1 {i k : Nat} {v : Int32} (hi : i < 10) (hk : k < 8) (h : S.2.2 9 i ≠ 0) : ∀ u, Lay K ad (stM S (200 + 8 * i + k) 1 v) u = z_up (Lay K ad S) (200 + 8 * i + k) (.inr (3, [.ref (ad (300 + 8 * i + k)), .int v, .int (S.2.2 (200 + 8 * i + k) 2)])) u := Lay_put (by omega) (by rw [Lay_Re hi hk (by rw [stM_n (by omega)]; exact h)]; rw [stM_s]; rfl)
theorem put_Re2 {i k : Nat} {v : Int32} (hi : i < 10) (hk : k < 8) (h : S.2.2 9 i ≠ 0) : ∀ u, Lay K ad (stM S (200 + 8 * i + k) 2 v) u = z_up (Lay K ad S) (200 + 8 * i + k) (.inr (3, [.ref (ad (300 + 8 * i + k)), .int (S.2.2 (200 + 8 * i + k) 1), .int v])) u := Lay_put (by omega) (by rw [Lay_Re hi hk (by rw [stM_n (by omega)]; exact h)]; rw [stM_s]; rfl)
theorem put_St5 {s : Nat} {v : Int32} (hs : s < 8) : ∀ u, Lay K ad (stM S (40 + s) 5 v) u = z_up (Lay K ad S) (40 + s) (.inr (6, [.ref (ad 1), .int (S.2.2 (40 + s) 1), .ref (ad (50 + s)), .ref (ad (60 + s)), .long (S.2.1 (40 + s) 4), .int v, .int (S.2.2 (40 + s) 6), .int (S.2.2 (40 + s) 7), .int (S.2.2 (40 + s) 8)])) u := Lay_put (by omega) (by rw [Lay_St hs]; rw [stM_s]; rfl)
theorem put_St6 {s : Nat} {v : Int32} (hs : s < 8) : ∀ u, Lay K ad (stM S (40 + s) 6 v) u = z_up (Lay K ad S) (40 + s) (.inr (6, [.ref (ad 1), .int (S.2.2 (40 + s) 1), .ref (ad (50 + s)), .ref (ad (60 + s)), .long (S.2.1 (40 + s) 4), .int (S.2.2 (40 + s) 5), .int v, .int (S.2.2 (40 + s) 7), .int (S.2.2 (40 + s) 8)])) u := Lay_put (by omega) (by rw [Lay_St hs]; rw [stM_s]; rfl)
theorem put_St7 {s : Nat} {v : Int32} (hs : s < 8) : ∀ u, Lay K ad (stM S (40 + s) 7 v) u = z_up (Lay K ad S) (40 + s) (.inr (6, [.ref (ad 1), .int (S.2.2 (40 + s) 1), .ref (ad (50 + s)), .ref (ad (60 + s)), .long (S.2.1 (40 + s) 4), .int (S.2.2 (40 + s) 5), .int (S.2.2 (40 + s) 6), .int v, .int (S.2.2 (40 + s) 8)])) u := Lay_put (by omega) (by rw [Lay_St hs]; rw [stM_s]; rfl)
theorem put_St8 {s : Nat} {v : Int32} (hs : s < 8) : ∀ u, Lay K ad (stM S (40 + s) 8 v) u = z_up (Lay K ad S) (40 + s) (.inr (6, [.ref (ad 1), .int (S.2.2 (40 + s) 1), .ref (ad (50 + s)), .ref (ad (60 + s)), .long (S.2.1 (40 + s) 4), .int (S.2.2 (40 + s) 5), .int (S.2.2 (40 + s) 6), .int (S.2.2 (40 + s) 7), .int v])) u := Lay_put (by omega) (by rw [Lay_St hs]; rw [stM_s]; rfl)
theorem put_St4 {s : Nat} {v : Int64} (hs : s < 8) : ∀ u, Lay K ad (stL S (40 + s) 4 v) u = z_up (Lay K ad S) (40 + s) (.inr (6, [.ref (ad 1), .int (S.2.2 (40 + s) 1), .ref (ad (50 + s)), .ref (ad (60 + s)), .long v, .int (S.2.2 (40 + s) 5), .int (S.2.2 (40 + s) 6), .int (S.2.2 (40 + s) 7), .int (S.2.2 (40 + s) 8)])) u := Lay_putL (by rw [Lay_St hs]; rw [stL_s]; rfl)
end LZ
end
section
section ZJ
variable {x : zX} {cc : ByteArray} {own : String} {Ts : List Cond} {l : Launch} {D : va_G} {cl : List vw_C} {tys : List (ClassId × FieldType)} {ad : Nat → Nat} {ce : zW} {n i pc mc ms : Nat} {lv : List (Nat × Value)} {st : List Value} {post : zQ}
theorem z_retV (hx : zOk x cc own Ts l D cl tys) {index na t ci N : Nat} {y : MethodName} {cb : ByteArray} {maxL : Nat} {ret : Option FieldType} {rm : Room} {As : List Value} {post' : zQ} {T : u_T} {ty : Nat → FieldType} {fs : List Value} (hc : zCl Ts cl ci y.cls T N ty) (he : ce t = some (.inr (ci, fs)))
    (hM : zC l Ts D cl tys y (.code y cb maxL ret) rm (.ref (ad t) :: As) ad ce post') (hg : zWc Ts y cb maxL ret na (Cond.methodLink own index y)) (hi : Cond.instanceMethod y ∈ Ts) (hse : Cond.selects y.cls y y ∈ Ts) (hlen : As.length = na) {st0 : List Value} (hst0 : As.reverse ++ .ref (ad t) :: st = st0) (hd : decode cc pc = .ok (.invokevirtual index, 3))
    (hR : rm.frames + 1 ≤ (zRm x).frames ∧ (st.map fun v => v.category).sum + (maxL + 11) + rm.locals ≤ (zRm x).locals ∧ n + rm.cells ≤ (zRm x).cells ∧ i + rm.slots ≤ (zRm x).slots)
    (kt : ∀ E ad' ce', ¬ post' (.inr E) ad' ce') (k : ∀ v ad' ce', post' (.inl v) ad' ce' → zV x ad' ce' (n + rm.cells) (i + rm.slots) lv (pc + 3) (v.toList ++ st)) : zV x ad ce n i lv pc st0 := by
  obtain ⟨⟨p, l0, e, R, s⟩, ⟨m, args, below, meth, c⟩, ⟨D0, cl0, tys0⟩, A, Q⟩ := x
  obtain ⟨hexec, hb, hown, hts0, hK, hA, hlocks, hZ, hE1, hE⟩ := hx
  cases hE1
  cases hE
  have hts := fun w (h : w ∈ Ts) => zT.at hts0 h args
  intro H locs ls hH hS hl T hT X
  subst hT
  subst hb
  subst hst0
  obtain ⟨⟨r', hr', cellB, g1, g2, g3, -⟩, -⟩ := hH.1 _ _ he
  have hclB : s.vm.findClass y.cls = some cellB.cls := by rw [g2]; exact (hK.1 ci _ hc.1).2.1
  obtain ⟨mk, methM, hnamed, hmethM, hstM, habM⟩ := Cond.instanceMethod_spec (hts _ hi)
  obtain ⟨methM', cM, hmethM', -, -, -, -, -, -, hsigM⟩ := Cond.code_spec hnamed (hts _ hg.2.1)
  cases hmethM.symm.trans hmethM'
  obtain ⟨c2, r2, m2, q1, q2, q3, q4, kP, hkP, hkPi⟩ := Cond.selects_spec (hts _ hse)
  cases hclB.symm.trans q1
  cases (State.methodFound?_of_named hnamed hg.2.2.2.1).symm.trans q2
  cases hnamed.symm.trans q3
  have hselP : selectMethod e.platform s.vm cellB.cls mk = .method mk := by rw [Launch.admits_selectMethod X.admits]; exact q4
  obtain ⟨vm₁, X₁, hstep₁⟩ := X.invokevirtual hexec hown (hts _ hg.1) hnamed hmethM hstM hkP hkPi hg.2.2.2.1 (a := ad t) (cell := cellB) g1
    (fun z h => by rw [g3] at h; cases h) hselP hmethM habM hkP hkPi (g := F0 m pc ls (As.reverse ++ .ref (ad t) :: st)) rfl (argsL := As) (rest := st) (hlen.trans (hg.2.2.2.2 _ hsigM)) rfl hd
  obtain ⟨o, T', L, r, ad', ce', X', hS', hH', hr, hp, hst⟩ := z_call X₁ hts0 hK hA hZ (T := T.setVm vm₁) hH hS hM hg.2.1 hg.2.2.1 (g := F0 m pc ls st) rfl hl.1 hd (X₁.named hnamed) hR.1 (by show 2 * 0 + _ + _ + _ ≤ _; have := hR.2.1; simp only [Nat.mul_zero, Nat.zero_add]; exact this) hR.2.2.1 hR.2.2.2
  cases o with
  | returned v =>
    cases r with
    | inr E => exact hr.elim
    | inl w =>
      obtain rfl : v = w := hr
      obtain ⟨t2, a1, b1⟩ := k v ad' ce' hp T'.heap (locs ++ L) ls hH' hS' hl T' rfl X'
      exact ⟨t2, hstep₁ _ fun acts => (hst acts).trans a1, b1⟩
  | threw a =>
    cases r with
    | inl w => exact hr.elim
    | inr E => exact (kt E ad' ce' hp).elim
theorem z_retVN (hx : zOk x cc own Ts l D cl tys) {host : String} {index na t ci N : Nat} {y : MethodName} {cb : ByteArray} {maxL : Nat} {ret : Option FieldType} {rm : Room} {As : List Value} {post' : zQ} {T : u_T} {ty : Nat → FieldType} {fs : List Value} (hc : zCl Ts cl ci y.cls T N ty) (he : ce t = some (.inr (ci, fs)))
    (hM : zC l Ts D cl tys y (.code y cb maxL ret) rm (.ref (ad t) :: As) ad ce post') (hg : zWc Ts y cb maxL ret na (Cond.methodLinkNest own index y host)) (hi : Cond.instanceMethod y ∈ Ts) (hse : Cond.selects y.cls y y ∈ Ts) (hlen : As.length = na) {st0 : List Value} (hst0 : As.reverse ++ .ref (ad t) :: st = st0) (hd : decode cc pc = .ok (.invokevirtual index, 3))
    (hR : rm.frames + 1 ≤ (zRm x).frames ∧ (st.map fun v => v.category).sum + (maxL + 11) + rm.locals ≤ (zRm x).locals ∧ n + rm.cells ≤ (zRm x).cells ∧ i + rm.slots ≤ (zRm x).slots)
    (kt : ∀ E ad' ce', ¬ post' (.inr E) ad' ce') (k : ∀ v ad' ce', post' (.inl v) ad' ce' → zV x ad' ce' (n + rm.cells) (i + rm.slots) lv (pc + 3) (v.toList ++ st)) : zV x ad ce n i lv pc st0 := by
  obtain ⟨⟨p, l0, e, R, s⟩, ⟨m, args, below, meth, c⟩, ⟨D0, cl0, tys0⟩, A, Q⟩ := x
  obtain ⟨hexec, hb, hown, hts0, hK, hA, hlocks, hZ, hE1, hE⟩ := hx
  cases hE1
  cases hE
  have hts := fun w (h : w ∈ Ts) => zT.at hts0 h args
  intro H locs ls hH hS hl T hT X
  subst hT
  subst hb
  subst hst0
  obtain ⟨⟨r', hr', cellB, g1, g2, g3, -⟩, -⟩ := hH.1 _ _ he
  have hclB : s.vm.findClass y.cls = some cellB.cls := by rw [g2]; exact (hK.1 ci _ hc.1).2.1
  obtain ⟨mk, methM, hnamed, hmethM, hstM, habM⟩ := Cond.instanceMethod_spec (hts _ hi)
  obtain ⟨methM', cM, hmethM', -, -, -, -, -, -, hsigM⟩ := Cond.code_spec hnamed (hts _ hg.2.1)
  cases hmethM.symm.trans hmethM'
  obtain ⟨c2, r2, m2, q1, q2, q3, q4, kP, hkP, hkPi⟩ := Cond.selects_spec (hts _ hse)
  cases hclB.symm.trans q1
  cases (State.methodFound?_of_named hnamed hg.2.2.2.1).symm.trans q2
  cases hnamed.symm.trans q3
  have hselP : selectMethod e.platform s.vm cellB.cls mk = .method mk := by rw [Launch.admits_selectMethod X.admits]; exact q4
  obtain ⟨vm₁, X₁, hstep₁⟩ := X.invokevirtualNest hexec hown (hts _ hg.1) hnamed hmethM hstM hkP hkPi hg.2.2.2.1 (a := ad t) (cell := cellB) g1
    (fun z h => by rw [g3] at h; cases h) hselP hmethM habM hkP hkPi (g := F0 m pc ls (As.reverse ++ .ref (ad t) :: st)) rfl (argsL := As) (rest := st) (hlen.trans (hg.2.2.2.2 _ hsigM)) rfl hd
  obtain ⟨o, T', L, r, ad', ce', X', hS', hH', hr, hp, hst⟩ := z_call X₁ hts0 hK hA hZ (T := T.setVm vm₁) hH hS hM hg.2.1 hg.2.2.1 (g := F0 m pc ls st) rfl hl.1 hd (X₁.named hnamed) hR.1 (by show 2 * 0 + _ + _ + _ ≤ _; have := hR.2.1; simp only [Nat.mul_zero, Nat.zero_add]; exact this) hR.2.2.1 hR.2.2.2
  cases o with
  | returned v =>
    cases r with
    | inr E => exact hr.elim
    | inl w =>
      obtain rfl : v = w := hr
      obtain ⟨t2, a1, b1⟩ := k v ad' ce' hp T'.heap (locs ++ L) ls hH' hS' hl T' rfl X'
      exact ⟨t2, hstep₁ _ fun acts => (hst acts).trans a1, b1⟩
  | threw a =>
    cases r with
    | inl w => exact hr.elim
    | inr E => exact (kt E ad' ce' hp).elim
theorem z_retS (hx : zOk x cc own Ts l D cl tys) {index na : Nat} {y : MethodName} {cb : ByteArray} {maxL : Nat} {ret : Option FieldType} {rm : Room} {As : List Value} {post' : zQ}
    (hM : zC l Ts D cl tys y (.code y cb maxL ret) rm As ad ce post') (hg : zWc Ts y cb maxL ret na (Cond.methodLink own index y)) (hi : Cond.static y ∈ Ts) (hlen : As.length = na) {st0 : List Value} (hst0 : As.reverse ++ st = st0) (hd : decode cc pc = .ok (.invokestatic index, 3))
    (hR : rm.frames + 1 ≤ (zRm x).frames ∧ (st.map fun v => v.category).sum + (maxL + 11) + rm.locals ≤ (zRm x).locals ∧ n + rm.cells ≤ (zRm x).cells ∧ i + rm.slots ≤ (zRm x).slots)
    (kt : ∀ E ad' ce', ¬ post' (.inr E) ad' ce') (k : ∀ v ad' ce', post' (.inl v) ad' ce' → zV x ad' ce' (n + rm.cells) (i + rm.slots) lv (pc + 3) (v.toList ++ st)) : zV x ad ce n i lv pc st0 := by
  obtain ⟨⟨p, l0, e, R, s⟩, ⟨m, args, below, meth, c⟩, ⟨D0, cl0, tys0⟩, A, Q⟩ := x
  obtain ⟨hexec, hb, hown, hts0, hK, hA, hlocks, hZ, hE1, hE⟩ := hx
  cases hE1
  cases hE
  have hts := fun w (h : w ∈ Ts) => zT.at hts0 h args
  intro H locs ls hH hS hl T hT X
  subst hT
  subst hb
  subst hst0
  obtain ⟨mk, hnamed⟩ := Cond.code_named (hts _ hg.2.1)
  obtain ⟨methM, cM, hmethM, -, -, -, -, -, -, hsigM⟩ := Cond.code_spec hnamed (hts _ hg.2.1)
  have hstatic : methM.isStatic = true := Cond.static_spec hnamed hmethM (hts _ hi)
  obtain ⟨kP, hkP, -⟩ := className_of_methodNamed hnamed
  have hinitP : kP.init = .initialized := Cond.initialized_spec (findClass_of_methodNamed hnamed) hkP (hts _ hg.2.2.1)
  obtain ⟨vm₁, X₁, hstep₁⟩ := X.invokestatic hexec hown (hts _ hg.1) hnamed hmethM hstatic hkP hinitP hg.2.2.2.1 (g := F0 m pc ls (As.reverse ++ st)) rfl (argsL := As) (rest := st) (hlen.trans (hg.2.2.2.2 _ hsigM)) rfl hd
  obtain ⟨o, T', L, r, ad', ce', X', hS', hH', hr, hp, hst⟩ := z_call X₁ hts0 hK hA hZ (T := T.setVm vm₁) hH hS hM hg.2.1 hg.2.2.1 (g := F0 m pc ls st) rfl hl.1 hd (X₁.named hnamed) hR.1 (by show 2 * 0 + _ + _ + _ ≤ _; have := hR.2.1; simp only [Nat.mul_zero, Nat.zero_add]; exact this) hR.2.2.1 hR.2.2.2
  cases o with
  | returned v =>
    cases r with
    | inr E => exact hr.elim
    | inl w =>
      obtain rfl : v = w := hr
      obtain ⟨t2, a1, b1⟩ := k v ad' ce' hp T'.heap (locs ++ L) ls hH' hS' hl T' rfl X'
      exact ⟨t2, hstep₁ _ fun acts => (hst acts).trans a1, b1⟩
  | threw a =>
    cases r with
    | inl w => exact hr.elim
    | inr E => exact (kt E ad' ce' hp).elim
end ZJ
/-- a room without new cells -/
abbrev rmk (f w : Nat) : Room := { frames := f, cells := 0, slots := 0, locals := w }
section ZK
variable {x : zX} {cc : ByteArray} {own : String} {l : Launch} {D : va_G} {K : Nat → ClassId} {ad : Nat → Nat} {S S' : zSt} {n i pc mc ms : Nat} {lv : List (Nat × Value)} {st : List Value} {post : zQ}
/-- a call of a method that makes nothing and comes back by zP -/
theorem z_cV (hx : zOk x cc own TB l D zcls (ztyl K)) {index na t ci N f w : Nat} {y : MethodName} {cb : ByteArray} {maxL : Nat} {ret : Option FieldType} {As : List Value} {v : Option Value} {T : u_T} {ty : Nat → FieldType} {fs : List Value} (hM : zC l TB D zcls (ztyl K) y (.code y cb maxL ret) (rmk f w) (.ref (ad t) :: As) ad (Lay K ad S) (zP K ad v S')) (hc : zCl TB zcls ci y.cls T N ty) (he : Lay K ad S t = some (.inr (ci, fs)))
    (hg : zWc TB y cb maxL ret na (Cond.methodLink own index y)) (hi : Cond.instanceMethod y ∈ TB) (hse : Cond.selects y.cls y y ∈ TB) (hlen : As.length = na) {st0 : List Value} (hst0 : As.reverse ++ .ref (ad t) :: st = st0) (hd : decode cc pc = .ok (.invokevirtual index, 3))
    (hR : f + 1 ≤ (zRm x).frames ∧ (st.map fun v => v.category).sum + (maxL + 11) + w ≤ (zRm x).locals ∧ n ≤ (zRm x).cells ∧ i ≤ (zRm x).slots) (k : zV x ad (Lay K ad S') n i lv (pc + 3) (v.toList ++ st)) : zV x ad (Lay K ad S) n i lv pc st0 :=
  z_retV hx hc he hM hg hi hse hlen hst0 hd hR (fun E ad' ce' h => by cases h.1) (fun v' ad' ce' h => by
    obtain ⟨h1, rfl, rfl⟩ := h
    cases h1
    exact k)
theorem z_cS (hx : zOk x cc own TB l D zcls (ztyl K)) {index na f w : Nat} {y : MethodName} {cb : ByteArray} {maxL : Nat} {ret : Option FieldType} {As : List Value} {v : Option Value} (hM : zC l TB D zcls (ztyl K) y (.code y cb maxL ret) (rmk f w) As ad (Lay K ad S) (zP K ad v S'))
    (hg : zWc TB y cb maxL ret na (Cond.methodLink own index y)) (hi : Cond.static y ∈ TB) (hlen : As.length = na) {st0 : List Value} (hst0 : As.reverse ++ st = st0) (hd : decode cc pc = .ok (.invokestatic index, 3))
    (hR : f + 1 ≤ (zRm x).frames ∧ (st.map fun v => v.category).sum + (maxL + 11) + w ≤ (zRm x).locals ∧ n ≤ (zRm x).cells ∧ i ≤ (zRm x).slots) (k : zV x ad (Lay K ad S') n i lv (pc + 3) (v.toList ++ st)) : zV x ad (Lay K ad S) n i lv pc st0 :=
  z_retS hx hM hg hi hlen hst0 hd hR (fun E ad' ce' h => by cases h.1) (fun v' ad' ce' h => by
    obtain ⟨h1, rfl, rfl⟩ := h
    cases h1
    exact k)
theorem zN {x : zX} {M : Nat} (h : (zcode x).maxLocals = M) {j : Nat} (hj : j < M) : j < (zcode x).maxLocals := by rw [h]; exact hj
theorem inN {N : Nat} {x : Int32} (h0 : 0 ≤ x.toInt) (h1 : x.toInt < N) : vp_in x N := vp_in_iff.mpr ⟨h0, h1⟩
theorem inK {k N : Nat} (h : k < N) (hN : N < 2 ^ 31) : vp_in (nI k) N := vp_in_nI h hN
theorem z_cl {k : Nat} (h : k < 2 ^ 31) : (nI k).toNatClampNeg = k := nI_clamp h
end ZK
section ZQ
variable {x : zX} {cc : ByteArray} {own : String} {Ts : List Cond} {l : Launch} {D : va_G} {cl : List vw_C} {tys : List (ClassId × FieldType)} {ad : Nat → Nat} {ce : zW} {n i pc mc ms : Nat} {lv : List (Nat × Value)} {st : List Value} {post : zQ}
theorem z_top {a b : Int32} (h : a = b) (k : zV x ad ce n i lv pc (.int b :: st)) : zV x ad ce n i lv pc (.int a :: st) := h ▸ k
theorem z_topL {a b : Int64} (h : a = b) (k : zV x ad ce n i lv pc (.long b :: st)) : zV x ad ce n i lv pc (.long a :: st) := h ▸ k
theorem z_ialdK (hx : zOk x cc own Ts l D cl tys) {cA : ClassId} {N t : Nat} {f : Nat → Int32} (t0 : Nat) (ht : tys[t0]? = some (cA, .int)) (he : ce t = some (.inl (cA, N, .inl f))) {k : Nat} (hk : k < N) (hN : N < 2 ^ 31) (hd : decode cc pc = .ok (.iaload, 1)) (kk : zV x ad ce n i lv (pc + 1) (.int (f k) :: st)) : zV x ad ce n i lv pc (.int (nI k) :: .ref (ad t) :: st) :=
  z_iald hx t0 ht he (vp_in_nI hk hN) hd (by rw [nI_clamp (Nat.lt_trans hk hN)]; exact kk)
theorem z_laldK (hx : zOk x cc own Ts l D cl tys) {cA : ClassId} {N t : Nat} {f : Nat → Int64} (t0 : Nat) (ht : tys[t0]? = some (cA, .long)) (he : ce t = some (.inl (cA, N, .inr (.inl f)))) {k : Nat} (hk : k < N) (hN : N < 2 ^ 31) (hd : decode cc pc = .ok (.laload, 1)) (kk : zV x ad ce n i lv (pc + 1) (.long (f k) :: st)) : zV x ad ce n i lv pc (.int (nI k) :: .ref (ad t) :: st) :=
  z_lald hx t0 ht he (vp_in_nI hk hN) hd (by rw [nI_clamp (Nat.lt_trans hk hN)]; exact kk)
theorem z_aaldK (hx : zOk x cc own Ts l D cl tys) {cA : ClassId} {C : String} {N t : Nat} {f : Nat → Option Nat} (t0 : Nat) (ht : tys[t0]? = some (cA, .object C)) (he : ce t = some (.inl (cA, N, .inr (.inr (.inr (.inr f)))))) {k : Nat} (hk : k < N) (hN : N < 2 ^ 31) {v : Value} (hv : va_rf (f k) = v) (hd : decode cc pc = .ok (.aaload, 1)) (kk : zV x ad ce n i lv (pc + 1) (v :: st)) : zV x ad ce n i lv pc (.int (nI k) :: .ref (ad t) :: st) :=
  z_aald hx t0 ht he (vp_in_nI hk hN) hd (by rw [nI_clamp (Nat.lt_trans hk hN), hv]; exact kk)
theorem z_iastK (hx : zOk x cc own Ts l D cl tys) {cA : ClassId} {N t : Nat} {f : Nat → Int32} (t0 : Nat) (ht : tys[t0]? = some (cA, .int)) (he : ce t = some (.inl (cA, N, .inl f))) {k : Nat} {v : Int32} (hk : k < N) (hN : N < 2 ^ 31) (hd : decode cc pc = .ok (.iastore, 1)) {ce1 : zW} (hce : ∀ u, ce1 u = z_up ce t (.inl (cA, N, .inl (upd f k v))) u) (kk : zV x ad ce1 n i lv (pc + 1) st) : zV x ad ce n i lv pc (.int v :: .int (nI k) :: .ref (ad t) :: st) :=
  z_iast hx t0 ht he (vp_in_nI hk hN) hd (by rw [nI_clamp (Nat.lt_trans hk hN)]; exact hce) kk
theorem z_lastK (hx : zOk x cc own Ts l D cl tys) {cA : ClassId} {N t : Nat} {f : Nat → Int64} (t0 : Nat) (ht : tys[t0]? = some (cA, .long)) (he : ce t = some (.inl (cA, N, .inr (.inl f)))) {k : Nat} {v : Int64} (hk : k < N) (hN : N < 2 ^ 31) (hd : decode cc pc = .ok (.lastore, 1)) {ce1 : zW} (hce : ∀ u, ce1 u = z_up ce t (.inl (cA, N, .inr (.inl (vp_updL f k v)))) u) (kk : zV x ad ce1 n i lv (pc + 1) st) : zV x ad ce n i lv pc (.long v :: .int (nI k) :: .ref (ad t) :: st) :=
  z_last hx t0 ht he (vp_in_nI hk hN) hd (by rw [nI_clamp (Nat.lt_trans hk hN)]; exact hce) kk
theorem z_mmax (hx : zOk x cc own Ts l D cl tys) {index : Nat} (h1 : Cond.methodLink own index Lib.Math.max.name ∈ Ts) (h2 : Cond.static Lib.Math.max.name ∈ Ts) (h3 : Cond.initialized "java/lang/Math" ∈ Ts) (h4 : Cond.code Lib.Math.max.name Lib.Math.max.code 2 (some .int) ∈ Ts) (hR : 1 ≤ (zRm x).frames ∧ (st.map fun v => v.category).sum + 13 ≤ (zRm x).locals ∧ n ≤ (zRm x).cells ∧ i ≤ (zRm x).slots) {a b : Int32} (hd : decode cc pc = .ok (.invokestatic index, 3)) (k : zV x ad ce n i lv (pc + 3) (.int (if a < b then b else a) :: st)) : zV x ad ce n i lv pc (.int b :: .int a :: st) := by
  obtain ⟨⟨p, l0, e, R, s⟩, ⟨m, args, below, meth, c⟩, ⟨D0, cl0, tys0⟩, A, Q⟩ := x
  obtain ⟨hexec, hb, hown, hts0, hK, hA, hlocks, hZ, hE1, hE⟩ := hx
  cases hE1
  cases hE
  have hts := fun w (h : w ∈ Ts) => zT.at hts0 h args
  intro H locs ls hH hS hl
  exact va_mmax hexec hb hl.1.symm hown (hts _ h1) (hts _ h2) (hts _ h3) (hts _ h4) hR.1 hR.2.1 hR.2.2.1 hR.2.2.2 hd (k H locs ls hH hS hl)
theorem z_mabs (hx : zOk x cc own Ts l D cl tys) {index : Nat} (h1 : Cond.methodLink own index Lib.Math.abs.name ∈ Ts) (h2 : Cond.static Lib.Math.abs.name ∈ Ts) (h3 : Cond.initialized "java/lang/Math" ∈ Ts) (h4 : Cond.code Lib.Math.abs.name Lib.Math.abs.code 1 (some .int) ∈ Ts) (hR : 1 ≤ (zRm x).frames ∧ (st.map fun v => v.category).sum + 13 ≤ (zRm x).locals ∧ n ≤ (zRm x).cells ∧ i ≤ (zRm x).slots) {a : Int32} (hd : decode cc pc = .ok (.invokestatic index, 3)) (k : zV x ad ce n i lv (pc + 3) (.int (if 0 ≤ a then a else 0 - a) :: st)) : zV x ad ce n i lv pc (.int a :: st) := by
  obtain ⟨⟨p, l0, e, R, s⟩, ⟨m, args, below, meth, c⟩, ⟨D0, cl0, tys0⟩, A, Q⟩ := x
  obtain ⟨hexec, hb, hown, hts0, hK, hA, hlocks, hZ, hE1, hE⟩ := hx
  cases hE1
  cases hE
  have hts := fun w (h : w ∈ Ts) => zT.at hts0 h args
  intro H locs ls hH hS hl
  exact va_mabs hexec hb hl.1.symm hown (hts _ h1) (hts _ h2) (hts _ h3) (hts _ h4) hR.1 hR.2.1 hR.2.2.1 hR.2.2.2 hd (k H locs ls hH hS hl)
end ZQ
/-- how many of the first k have it -/
def cntI (p : Nat → Bool) : Nat → Nat
  | 0 => 0
  | k + 1 => cntI p k + (if p k = true then 1 else 0)
/-- the least from k on, within m steps; -1 if there is none -/
def lstF (p : Nat → Bool) : Nat → Nat → Int32
  | 0, _ => -1
  | m + 1, k => if p k = true then nI k else lstF p m (k + 1)
def hasF (p : Nat → Bool) : Nat → Nat → Int32
  | 0, _ => 0
  | m + 1, k => if p k = true then 1 else hasF p m (k + 1)
def putF (S : zSt) (s r : Int32) (f : Nat) : Nat → zSt
  | 0 => S
  | k + 1 => stM (stM (stM (putF S s r f k) 5 (f + k) s) 6 (f + k) r) 7 (f + k) 1
def markF (S : zSt) (g : Nat → Nat) : Nat → zSt
  | 0 => S
  | k + 1 => stM (markF S g k) 7 (g k) 2
theorem markF_n {S : zSt} {g : Nat → Nat} {k t : Nat} (h : t ≠ 7) : (markF S g k).2.2 t = S.2.2 t := by
  induction k with
  | zero => rfl
  | succ k ih => rw [markF, stM_n h, ih]
theorem markF_11 {S : zSt} {g : Nat → Nat} {k : Nat} : (markF S g k).2.2 11 = S.2.2 11 := markF_n (by decide)
def frmF (S : zSt) (s : Int32) : Nat → zSt
  | 0 => S
  | k + 1 => if (frmF S s k).2.2 7 k = 2 ∧ (frmF S s k).2.2 5 k = s then stM (frmF S s k) 7 k 1 else frmF S s k
def fillF (S : zSt) (t : Nat) : Nat → zSt
  | 0 => S
  | k + 1 => stM (fillF S t k) t k (S.2.2 11 k)
theorem fillF_n {S : zSt} {t u k : Nat} (h : u ≠ t) : (fillF S t k).2.2 u = S.2.2 u := by
  induction k with
  | zero => rfl
  | succ k ih => rw [fillF, stM_n h, ih]
def elF (S : zSt) (i : Nat) : Nat → Int32
  | 0 => 0
  | k + 1 => elF S i k + (S.2.2 (200 + 8 * i + k) 1 - S.2.2 (200 + 8 * i + k) 2)
def dropF (S : zSt) (i : Nat) : Nat → zSt
  | 0 => S
  | k + 1 => stM (stM (dropF S i k) (200 + 8 * i + k) 1 0) (200 + 8 * i + k) 2 0
theorem dropF_n {S : zSt} {i t k : Nat} (h : t < 200 + 8 * i) : (dropF S i k).2.2 t = S.2.2 t := by
  induction k with
  | zero => rfl
  | succ k ih => rw [dropF, stM_n (by omega), stM_n (by omega), ih]
theorem zlt_nI {a b : Nat} (h : ¬ nI b ≤ nI a) (ha : a < 2 ^ 31) (hb : b < 2 ^ 31) : a < b := by
  rw [nI_leI hb ha] at h
  omega
theorem zle_nI {a b : Nat} (h : nI b ≤ nI a) (hb : b < 2 ^ 31) (ha : a < 2 ^ 31) : b ≤ a := (nI_leI hb ha).mp h
theorem z01 {P : Prop} [Decidable P] (h : ¬ (if P then (1 : Int32) else 0) = 0) : P := by
  by_cases q : P
  · exact q
  · exact absurd (if_neg q) h
theorem z00 {P : Prop} [Decidable P] (h : (if P then (1 : Int32) else 0) = 0) : ¬ P := fun q => by
  rw [if_pos q] at h
  exact absurd h (by decide)
theorem z11 {P : Prop} [Decidable P] (h : ¬ (if P then (0 : Int32) else 1) = 0) : ¬ P := fun q => h (if_pos q)
theorem z10 {P : Prop} [Decidable P] (h : (if P then (0 : Int32) else 1) = 0) : P := by
  by_cases q : P
  · exact q
  · rw [if_neg q] at h
    exact absurd h (by decide)
theorem ho_n {S : zSt} {i t j : Nat} {v : Int32} (h : 9 ≠ t) (ho : S.2.2 9 i ≠ 0) : (stM S t j v).2.2 9 i ≠ 0 := by rw [stM_n h]; exact ho
theorem zle {a : Int32} (h : a ≤ 0) : ¬ 0 < a := Int32.not_lt.mpr h
theorem zgt {a : Int32} (h : ¬ a ≤ 0) : 0 < a := Int32.not_le.mp h
theorem zngt {a : Int32} (h : a ≤ 0) : ¬ 0 < a := Int32.not_lt.mpr h
theorem nI_lit (k : Nat) (v : Int32) (h : Int32.ofNat k = v) : v = nI k := h.symm
theorem nI_ge0 {k : Nat} (h : k < 2 ^ 31) : 0 ≤ nI k := nI_pos' h
theorem nI_ltL {k : Nat} (N : Nat) {v : Int32} (hv : nI N = v) (h : k < N) (hN : N < 2 ^ 31) : nI k < v := hv ▸ nI_lt h hN
theorem nI_leL {k : Nat} (N : Nat) {v : Int32} (hv : nI N = v) (h : k = N) (hN : N < 2 ^ 31) : v ≤ nI k := by
  subst h
  rw [hv]
  exact Int32.le_refl _
theorem nI_nleL {k : Nat} (N : Nat) {v : Int32} (hv : nI N = v) (h : k < N) (hN : N < 2 ^ 31) : ¬ v ≤ nI k := hv ▸ nI_ge h hN
end
section
set_option maxRecDepth 20000 in
theorem c_Sh_isKit {l : Launch} {D : va_G} {K : Nat → ClassId} {ad : Nat → Nat} {S : zSt} {k : Nat} (hk : k < 1000) : zC l TB D zcls (ztyl K) y_Sh_isKit (.code y_Sh_isKit b_Sh_isKit 1 (some FieldType.boolean)) (rmk 0 0) [.int (nI k)] ad (Lay K ad S) (zP K ad (some (.int 1)) S) := by
  refine zC.of (by decide +kernel) (Nat.le_of_ble_eq_true rfl) ?_
  intro x hx hr hml hnm hrm hq hNH
  show zV x ad (Lay K ad S) 0 0 [(0, .int (nI k))] 0 []
  refine z_iload_n hx 0 d_Sh_isKit_0 rfl ?_
  refine z_if_lt (tgt := 15) hx d_Sh_isKit_1 (by decide) (fun h => absurd h (nI_pos (by omega))) (fun _ => ?_)
  refine z_iload_n hx 0 d_Sh_isKit_4 rfl ?_
  refine z_sipush (v := 1000) hx d_Sh_isKit_5 rfl ?_
  refine z_icmp_ge (tgt := 15) hx d_Sh_isKit_8 (by decide) (fun h => absurd h (nI_nleL 1000 rfl hk (by decide))) (fun _ => ?_)
  refine z_iconst (v := 1) hx d_Sh_isKit_11 rfl ?_
  refine z_goto (tgt := 16) hx d_Sh_isKit_12 (by decide) ?_
  exact z_iret hx hr rfl hq (Nat.le_refl _) (Nat.le_refl _) d_Sh_isKit_16 ⟨rfl, rfl, rfl⟩
set_option maxRecDepth 20000 in
theorem c_Si_isPerson {l : Launch} {D : va_G} {K : Nat → ClassId} {ad : Nat → Nat} {S : zSt} {k : Nat} (hk : k < 100) : zC l TB D zcls (ztyl K) y_Si_isPerson (.code y_Si_isPerson b_Si_isPerson 1 (some FieldType.boolean)) (rmk 0 0) [.int (nI k)] ad (Lay K ad S) (zP K ad (some (.int 1)) S) := by
  refine zC.of (by decide +kernel) (Nat.le_of_ble_eq_true rfl) ?_
  intro x hx hr hml hnm hrm hq hNH
  show zV x ad (Lay K ad S) 0 0 [(0, .int (nI k))] 0 []
  refine z_iload_n hx 0 d_Si_isPerson_0 rfl ?_
  refine z_if_lt (tgt := 14) hx d_Si_isPerson_1 (by decide) (fun h => absurd h (nI_pos (by omega))) (fun _ => ?_)
  refine z_iload_n hx 0 d_Si_isPerson_4 rfl ?_
  refine z_bipush (v := 100) hx d_Si_isPerson_5 rfl ?_
  refine z_icmp_ge (tgt := 14) hx d_Si_isPerson_7 (by decide) (fun h => absurd h (nI_nleL 100 rfl hk (by decide))) (fun _ => ?_)
  refine z_iconst (v := 1) hx d_Si_isPerson_10 rfl ?_
  refine z_goto (tgt := 15) hx d_Si_isPerson_11 (by decide) ?_
  exact z_iret hx hr rfl hq (Nat.le_refl _) (Nat.le_refl _) d_Si_isPerson_15 ⟨rfl, rfl, rfl⟩
set_option maxRecDepth 20000 in
theorem c_Jo_tearNext {l : Launch} {D : va_G} {K : Nat → ClassId} {ad : Nat → Nat} {S : zSt}  : zC l TB D zcls (ztyl K) y_Jo_tearNext (.code y_Jo_tearNext b_Jo_tearNext 1 (none : Option FieldType)) (rmk 0 0) [.ref (ad 3)] ad (Lay K ad S) (zP K ad none (if S.2.2 3 0 = 0 then stM S 3 1 1 else S)) := by
  refine zC.of (by decide +kernel) (Nat.le_of_ble_eq_true rfl) ?_
  intro x hx hr hml hnm hrm hq hNH
  show zV x ad (Lay K ad S) 0 0 [(0, .ref (ad 3))] 0 []
  refine z_aload_n hx 0 d_Jo_tearNext_0 rfl ?_
  refine z_get hx k_Jo (t := 3) rfl 0 (by decide) a1_57 rfl d_Jo_tearNext_1 ?_
  refine z_if_ne (tgt := 12) hx d_Jo_tearNext_4 (by decide) (fun h1 => ?_) (fun h1 => ?_)
  · exact z_vret hx hr hq (Nat.le_refl _) (Nat.le_refl _) d_Jo_tearNext_12 ⟨by simp [h1], rfl, by simp [h1]⟩
  · refine z_aload_n hx 0 d_Jo_tearNext_7 rfl ?_
    refine z_iconst (v := 1) hx d_Jo_tearNext_8 rfl ?_
    refine z_put hx k_Jo (t := 3) rfl 1 (by decide) a1_59 rfl rfl rfl (Nat.le_of_ble_eq_true rfl) d_Jo_tearNext_9 (ce1 := Lay K ad (stM S 3 1 1)) (Lay_put (by decide) rfl) ?_
    exact z_vret hx hr hq (Nat.le_refl _) (Nat.le_refl _) d_Jo_tearNext_12 ⟨by simp [h1], rfl, by simp [h1]⟩
set_option maxRecDepth 20000 in
theorem c_Jo_write {l : Launch} {D : va_G} {K : Nat → ClassId} {ad : Nat → Nat} {S : zSt}  : zC l TB D zcls (ztyl K) y_Jo_write (.code y_Jo_write b_Jo_write 1 (some FieldType.boolean)) (rmk 0 0) [.ref (ad 3)] ad (Lay K ad S) (zP K ad (some (.int (if S.2.2 3 1 = 0 then 1 else 0))) (if S.2.2 3 1 = 0 then stM S 3 2 (S.2.2 3 2 + 1) else stM (stM S 3 1 0) 3 0 1)) := by
  refine zC.of (by decide +kernel) (Nat.le_of_ble_eq_true rfl) ?_
  intro x hx hr hml hnm hrm hq hNH
  show zV x ad (Lay K ad S) 0 0 [(0, .ref (ad 3))] 0 []
  refine z_aload_n hx 0 d_Jo_write_0 rfl ?_
  refine z_get hx k_Jo (t := 3) rfl 1 (by decide) a1_59 rfl d_Jo_write_1 ?_
  refine z_if_eq (tgt := 19) hx d_Jo_write_4 (by decide) (fun h1 => ?_) (fun h1 => ?_)
  · refine z_aload_n hx 0 d_Jo_write_19 rfl ?_
    refine z_dup hx d_Jo_write_20 rfl ?_
    refine z_get hx k_Jo (t := 3) rfl 2 (by decide) a1_60 rfl d_Jo_write_21 ?_
    refine z_iconst (v := 1) hx d_Jo_write_24 rfl ?_
    refine z_iadd hx d_Jo_write_25 ?_
    refine z_put hx k_Jo (t := 3) rfl 2 (by decide) a1_60 rfl rfl rfl (Nat.le_of_ble_eq_true rfl) d_Jo_write_26 (ce1 := Lay K ad (stM S 3 2 ((S.2.2 3 2) + 1))) (Lay_put (by decide) rfl) ?_
    refine z_iconst (v := 1) hx d_Jo_write_29 rfl ?_
    exact z_iret hx hr rfl hq (Nat.le_refl _) (Nat.le_refl _) d_Jo_write_30 ⟨by simp [h1], rfl, by simp [h1]⟩
  · refine z_aload_n hx 0 d_Jo_write_7 rfl ?_
    refine z_iconst (v := 0) hx d_Jo_write_8 rfl ?_
    refine z_put hx k_Jo (t := 3) rfl 1 (by decide) a1_59 rfl rfl rfl (Nat.le_of_ble_eq_true rfl) d_Jo_write_9 (ce1 := Lay K ad (stM S 3 1 0)) (Lay_put (by decide) rfl) ?_
    refine z_aload_n hx 0 d_Jo_write_12 rfl ?_
    refine z_iconst (v := 1) hx d_Jo_write_13 rfl ?_
    refine z_put hx k_Jo (t := 3) rfl 0 (by decide) a1_57 rfl rfl rfl (Nat.le_of_ble_eq_true rfl) d_Jo_write_14 (ce1 := Lay K ad (stM (stM S 3 1 0) 3 0 1)) (Lay_put (by decide) rfl) ?_
    refine z_iconst (v := 0) hx d_Jo_write_17 rfl ?_
    exact z_iret hx hr rfl hq (Nat.le_refl _) (Nat.le_refl _) d_Jo_write_18 ⟨by simp [h1], rfl, by simp [h1]⟩
set_option maxRecDepth 20000 in
theorem c_Pl_set {l : Launch} {D : va_G} {K : Nat → ClassId} {ad : Nat → Nat} {S : zSt} {a b c d e : Int32} : zC l TB D zcls (ztyl K) y_Pl_set (.code y_Pl_set b_Pl_set 6 (none : Option FieldType)) (rmk 0 0) [.ref (ad 1), .int a, .int b, .int c, .int d, .int e] ad (Lay K ad S) (zP K ad none (stM (stM (stM (stM (stM (stM (stM S 2 0 a) 2 1 b) 2 2 c) 2 3 d) 1 1 (2 + (if c ≤ 0 then 0 else 1) + (if d ≤ 0 then 0 else 1))) 1 2 (a + b + c + d)) 1 3 e)) := by
  refine zC.of (by decide +kernel) (Nat.le_of_ble_eq_true rfl) ?_
  intro x hx hr hml hnm hrm hq hNH
  show zV x ad (Lay K ad S) 0 0 [(0, .ref (ad 1)), (1, .int a), (2, .int b), (3, .int c), (4, .int d), (5, .int e)] 0 []
  refine z_aload_n hx 0 d_Pl_set_0 rfl ?_
  refine z_get hx k_Pl (t := 1) rfl 0 (by decide) a1_33 rfl d_Pl_set_1 ?_
  refine z_iconst (v := 0) hx d_Pl_set_4 rfl ?_
  refine z_iload_n hx 1 d_Pl_set_5 rfl ?_
  refine z_iastK hx 0 rfl (t := 2) rfl (k := 0) (by decide) (by first | decide | omega)  d_Pl_set_6 (ce1 := Lay K ad (stM S 2 0 a)) (Lay_put (by decide) rfl) ?_
  refine z_aload_n hx 0 d_Pl_set_7 rfl ?_
  refine z_get hx k_Pl (t := 1) rfl 0 (by decide) a1_33 rfl d_Pl_set_8 ?_
  refine z_iconst (v := 1) hx d_Pl_set_11 rfl ?_
  refine z_iload_n hx 2 d_Pl_set_12 rfl ?_
  refine z_iastK hx 0 rfl (t := 2) rfl (k := 1) (by decide) (by first | decide | omega)  d_Pl_set_13 (ce1 := Lay K ad (stM (stM S 2 0 a) 2 1 b)) (Lay_put (by decide) rfl) ?_
  refine z_aload_n hx 0 d_Pl_set_14 rfl ?_
  refine z_get hx k_Pl (t := 1) rfl 0 (by decide) a1_33 rfl d_Pl_set_15 ?_
  refine z_iconst (v := 2) hx d_Pl_set_18 rfl ?_
  refine z_iload_n hx 3 d_Pl_set_19 rfl ?_
  refine z_iastK hx 0 rfl (t := 2) rfl (k := 2) (by decide) (by first | decide | omega)  d_Pl_set_20 (ce1 := Lay K ad (stM (stM (stM S 2 0 a) 2 1 b) 2 2 c)) (Lay_put (by decide) rfl) ?_
  refine z_aload_n hx 0 d_Pl_set_21 rfl ?_
  refine z_get hx k_Pl (t := 1) rfl 0 (by decide) a1_33 rfl d_Pl_set_22 ?_
  refine z_iconst (v := 3) hx d_Pl_set_25 rfl ?_
  refine z_iload hx 4 d_Pl_set_26 rfl ?_
  refine z_iastK hx 0 rfl (t := 2) rfl (k := 3) (by decide) (by first | decide | omega)  d_Pl_set_28 (ce1 := Lay K ad (stM (stM (stM (stM S 2 0 a) 2 1 b) 2 2 c) 2 3 d)) (Lay_put (by decide) rfl) ?_
  refine z_aload_n hx 0 d_Pl_set_29 rfl ?_
  refine z_iconst (v := 2) hx d_Pl_set_30 rfl ?_
  refine z_iload_n hx 3 d_Pl_set_31 rfl ?_
  refine z_if_le (tgt := 39) hx d_Pl_set_32 (by decide) (fun h1 => ?_) (fun h1 => ?_)
  · refine z_iconst (v := 0) hx d_Pl_set_39 rfl ?_
    refine z_iadd hx d_Pl_set_40 ?_
    refine z_iload hx 4 d_Pl_set_41 rfl ?_
    refine z_if_le (tgt := 50) hx d_Pl_set_43 (by decide) (fun h2 => ?_) (fun h2 => ?_)
    · refine z_iconst (v := 0) hx d_Pl_set_50 rfl ?_
      refine z_iadd hx d_Pl_set_51 ?_
      refine z_put hx k_Pl (t := 1) rfl 1 (by decide) a1_34 rfl rfl rfl (Nat.le_of_ble_eq_true rfl) d_Pl_set_52 (ce1 := Lay K ad (stM (stM (stM (stM (stM S 2 0 a) 2 1 b) 2 2 c) 2 3 d) 1 1 ((2 + 0) + 0))) (Lay_put (by decide) rfl) ?_
      refine z_aload_n hx 0 d_Pl_set_55 rfl ?_
      refine z_iload_n hx 1 d_Pl_set_56 rfl ?_
      refine z_iload_n hx 2 d_Pl_set_57 rfl ?_
      refine z_iadd hx d_Pl_set_58 ?_
      refine z_iload_n hx 3 d_Pl_set_59 rfl ?_
      refine z_iadd hx d_Pl_set_60 ?_
      refine z_iload hx 4 d_Pl_set_61 rfl ?_
      refine z_iadd hx d_Pl_set_63 ?_
      refine z_put hx k_Pl (t := 1) rfl 2 (by decide) a1_37 rfl rfl rfl (Nat.le_of_ble_eq_true rfl) d_Pl_set_64 (ce1 := Lay K ad (stM (stM (stM (stM (stM (stM S 2 0 a) 2 1 b) 2 2 c) 2 3 d) 1 1 ((2 + 0) + 0)) 1 2 (((a + b) + c) + d))) (Lay_put (by decide) rfl) ?_
      refine z_aload_n hx 0 d_Pl_set_67 rfl ?_
      refine z_iload hx 5 d_Pl_set_68 rfl ?_
      refine z_put hx k_Pl (t := 1) rfl 3 (by decide) a1_38 rfl rfl rfl (Nat.le_of_ble_eq_true rfl) d_Pl_set_70 (ce1 := Lay K ad (stM (stM (stM (stM (stM (stM (stM S 2 0 a) 2 1 b) 2 2 c) 2 3 d) 1 1 ((2 + 0) + 0)) 1 2 (((a + b) + c) + d)) 1 3 e)) (Lay_put (by decide) rfl) ?_
      exact z_vret hx hr hq (Nat.le_refl _) (Nat.le_refl _) d_Pl_set_73 ⟨rfl, rfl, by simp [h1, h2]⟩
    · refine z_iconst (v := 1) hx d_Pl_set_46 rfl ?_
      refine z_goto (tgt := 51) hx d_Pl_set_47 (by decide) ?_
      refine z_iadd hx d_Pl_set_51 ?_
      refine z_put hx k_Pl (t := 1) rfl 1 (by decide) a1_34 rfl rfl rfl (Nat.le_of_ble_eq_true rfl) d_Pl_set_52 (ce1 := Lay K ad (stM (stM (stM (stM (stM S 2 0 a) 2 1 b) 2 2 c) 2 3 d) 1 1 ((2 + 0) + 1))) (Lay_put (by decide) rfl) ?_
      refine z_aload_n hx 0 d_Pl_set_55 rfl ?_
      refine z_iload_n hx 1 d_Pl_set_56 rfl ?_
      refine z_iload_n hx 2 d_Pl_set_57 rfl ?_
      refine z_iadd hx d_Pl_set_58 ?_
      refine z_iload_n hx 3 d_Pl_set_59 rfl ?_
      refine z_iadd hx d_Pl_set_60 ?_
      refine z_iload hx 4 d_Pl_set_61 rfl ?_
      refine z_iadd hx d_Pl_set_63 ?_
      refine z_put hx k_Pl (t := 1) rfl 2 (by decide) a1_37 rfl rfl rfl (Nat.le_of_ble_eq_true rfl) d_Pl_set_64 (ce1 := Lay K ad (stM (stM (stM (stM (stM (stM S 2 0 a) 2 1 b) 2 2 c) 2 3 d) 1 1 ((2 + 0) + 1)) 1 2 (((a + b) + c) + d))) (Lay_put (by decide) rfl) ?_
      refine z_aload_n hx 0 d_Pl_set_67 rfl ?_
      refine z_iload hx 5 d_Pl_set_68 rfl ?_
      refine z_put hx k_Pl (t := 1) rfl 3 (by decide) a1_38 rfl rfl rfl (Nat.le_of_ble_eq_true rfl) d_Pl_set_70 (ce1 := Lay K ad (stM (stM (stM (stM (stM (stM (stM S 2 0 a) 2 1 b) 2 2 c) 2 3 d) 1 1 ((2 + 0) + 1)) 1 2 (((a + b) + c) + d)) 1 3 e)) (Lay_put (by decide) rfl) ?_
      exact z_vret hx hr hq (Nat.le_refl _) (Nat.le_refl _) d_Pl_set_73 ⟨rfl, rfl, by simp [h1, h2]⟩
  · refine z_iconst (v := 1) hx d_Pl_set_35 rfl ?_
    refine z_goto (tgt := 40) hx d_Pl_set_36 (by decide) ?_
    refine z_iadd hx d_Pl_set_40 ?_
    refine z_iload hx 4 d_Pl_set_41 rfl ?_
    refine z_if_le (tgt := 50) hx d_Pl_set_43 (by decide) (fun h3 => ?_) (fun h3 => ?_)
    · refine z_iconst (v := 0) hx d_Pl_set_50 rfl ?_
      refine z_iadd hx d_Pl_set_51 ?_
      refine z_put hx k_Pl (t := 1) rfl 1 (by decide) a1_34 rfl rfl rfl (Nat.le_of_ble_eq_true rfl) d_Pl_set_52 (ce1 := Lay K ad (stM (stM (stM (stM (stM S 2 0 a) 2 1 b) 2 2 c) 2 3 d) 1 1 ((2 + 1) + 0))) (Lay_put (by decide) rfl) ?_
      refine z_aload_n hx 0 d_Pl_set_55 rfl ?_
      refine z_iload_n hx 1 d_Pl_set_56 rfl ?_
      refine z_iload_n hx 2 d_Pl_set_57 rfl ?_
      refine z_iadd hx d_Pl_set_58 ?_
      refine z_iload_n hx 3 d_Pl_set_59 rfl ?_
      refine z_iadd hx d_Pl_set_60 ?_
      refine z_iload hx 4 d_Pl_set_61 rfl ?_
      refine z_iadd hx d_Pl_set_63 ?_
      refine z_put hx k_Pl (t := 1) rfl 2 (by decide) a1_37 rfl rfl rfl (Nat.le_of_ble_eq_true rfl) d_Pl_set_64 (ce1 := Lay K ad (stM (stM (stM (stM (stM (stM S 2 0 a) 2 1 b) 2 2 c) 2 3 d) 1 1 ((2 + 1) + 0)) 1 2 (((a + b) + c) + d))) (Lay_put (by decide) rfl) ?_
      refine z_aload_n hx 0 d_Pl_set_67 rfl ?_
      refine z_iload hx 5 d_Pl_set_68 rfl ?_
      refine z_put hx k_Pl (t := 1) rfl 3 (by decide) a1_38 rfl rfl rfl (Nat.le_of_ble_eq_true rfl) d_Pl_set_70 (ce1 := Lay K ad (stM (stM (stM (stM (stM (stM (stM S 2 0 a) 2 1 b) 2 2 c) 2 3 d) 1 1 ((2 + 1) + 0)) 1 2 (((a + b) + c) + d)) 1 3 e)) (Lay_put (by decide) rfl) ?_
      exact z_vret hx hr hq (Nat.le_refl _) (Nat.le_refl _) d_Pl_set_73 ⟨rfl, rfl, by simp [h1, h3]⟩
    · refine z_iconst (v := 1) hx d_Pl_set_46 rfl ?_
      refine z_goto (tgt := 51) hx d_Pl_set_47 (by decide) ?_
      refine z_iadd hx d_Pl_set_51 ?_
      refine z_put hx k_Pl (t := 1) rfl 1 (by decide) a1_34 rfl rfl rfl (Nat.le_of_ble_eq_true rfl) d_Pl_set_52 (ce1 := Lay K ad (stM (stM (stM (stM (stM S 2 0 a) 2 1 b) 2 2 c) 2 3 d) 1 1 ((2 + 1) + 1))) (Lay_put (by decide) rfl) ?_
      refine z_aload_n hx 0 d_Pl_set_55 rfl ?_
      refine z_iload_n hx 1 d_Pl_set_56 rfl ?_
      refine z_iload_n hx 2 d_Pl_set_57 rfl ?_
      refine z_iadd hx d_Pl_set_58 ?_
      refine z_iload_n hx 3 d_Pl_set_59 rfl ?_
      refine z_iadd hx d_Pl_set_60 ?_
      refine z_iload hx 4 d_Pl_set_61 rfl ?_
      refine z_iadd hx d_Pl_set_63 ?_
      refine z_put hx k_Pl (t := 1) rfl 2 (by decide) a1_37 rfl rfl rfl (Nat.le_of_ble_eq_true rfl) d_Pl_set_64 (ce1 := Lay K ad (stM (stM (stM (stM (stM (stM S 2 0 a) 2 1 b) 2 2 c) 2 3 d) 1 1 ((2 + 1) + 1)) 1 2 (((a + b) + c) + d))) (Lay_put (by decide) rfl) ?_
      refine z_aload_n hx 0 d_Pl_set_67 rfl ?_
      refine z_iload hx 5 d_Pl_set_68 rfl ?_
      refine z_put hx k_Pl (t := 1) rfl 3 (by decide) a1_38 rfl rfl rfl (Nat.le_of_ble_eq_true rfl) d_Pl_set_70 (ce1 := Lay K ad (stM (stM (stM (stM (stM (stM (stM S 2 0 a) 2 1 b) 2 2 c) 2 3 d) 1 1 ((2 + 1) + 1)) 1 2 (((a + b) + c) + d)) 1 3 e)) (Lay_put (by decide) rfl) ?_
      exact z_vret hx hr hq (Nat.le_refl _) (Nat.le_refl _) d_Pl_set_73 ⟨rfl, rfl, by simp [h1, h3]⟩
set_option maxRecDepth 20000 in
theorem c_Pl_weightOf {l : Launch} {D : va_G} {K : Nat → ClassId} {ad : Nat → Nat} {S : zSt} {k : Nat} (hk : k < 4) : zC l TB D zcls (ztyl K) y_Pl_weightOf (.code y_Pl_weightOf b_Pl_weightOf 2 (some FieldType.int)) (rmk 0 0) [.ref (ad 1), .int (nI k)] ad (Lay K ad S) (zP K ad (some (.int (S.2.2 2 k))) S) := by
  refine zC.of (by decide +kernel) (Nat.le_of_ble_eq_true rfl) ?_
  intro x hx hr hml hnm hrm hq hNH
  show zV x ad (Lay K ad S) 0 0 [(0, .ref (ad 1)), (1, .int (nI k))] 0 []
  refine z_iload_n hx 1 d_Pl_weightOf_0 rfl ?_
  refine z_if_lt (tgt := 22) hx d_Pl_weightOf_1 (by decide) (fun h => absurd h (nI_pos (by omega))) (fun _ => ?_)
  refine z_iload_n hx 1 d_Pl_weightOf_4 rfl ?_
  refine z_aload_n hx 0 d_Pl_weightOf_5 rfl ?_
  refine z_get hx k_Pl (t := 1) rfl 0 (by decide) a1_33 rfl d_Pl_weightOf_6 ?_
  refine z_alen hx 0 rfl (t := 2) rfl (v := 4) rfl d_Pl_weightOf_9 ?_
  refine z_icmp_ge (tgt := 22) hx d_Pl_weightOf_10 (by decide) (fun h => absurd h (nI_nleL 4 rfl hk (by decide))) (fun _ => ?_)
  refine z_aload_n hx 0 d_Pl_weightOf_13 rfl ?_
  refine z_get hx k_Pl (t := 1) rfl 0 (by decide) a1_33 rfl d_Pl_weightOf_14 ?_
  refine z_iload_n hx 1 d_Pl_weightOf_17 rfl ?_
  refine z_ialdK hx 0 rfl (t := 2) rfl (k := k) (by omega) (by first | decide | omega) d_Pl_weightOf_18 ?_
  refine z_goto (tgt := 23) hx d_Pl_weightOf_19 (by decide) ?_
  exact z_iret hx hr rfl hq (Nat.le_refl _) (Nat.le_refl _) d_Pl_weightOf_23 ⟨rfl, rfl, rfl⟩
set_option maxRecDepth 20000 in
theorem c_Pl_entriesOf {l : Launch} {D : va_G} {K : Nat → ClassId} {ad : Nat → Nat} {S : zSt} {k : Nat} (hk : k < 4) : zC l TB D zcls (ztyl K) y_Pl_entriesOf (.code y_Pl_entriesOf b_Pl_entriesOf 2 (some FieldType.int)) (rmk 1 21) [.ref (ad 1), .int (nI k)] ad (Lay K ad S) (zP K ad (some (.int (if 0 < S.2.2 1 2 then S.2.2 2 k * (S.2.2 1 3 / S.2.2 1 2) else 0))) S) := by
  refine zC.of (by decide +kernel) (Nat.le_of_ble_eq_true rfl) ?_
  intro x hx hr hml hnm hrm hq hNH
  show zV x ad (Lay K ad S) 0 0 [(0, .ref (ad 1)), (1, .int (nI k))] 0 []
  refine z_aload_n hx 0 d_Pl_entriesOf_0 rfl ?_
  refine z_get hx k_Pl (t := 1) rfl 2 (by decide) a1_37 rfl d_Pl_entriesOf_1 ?_
  refine z_if_le (tgt := 25) hx d_Pl_entriesOf_4 (by decide) (fun h1 => ?_) (fun h1 => ?_)
  · refine z_iconst (v := 0) hx d_Pl_entriesOf_25 rfl ?_
    exact z_iret hx hr rfl hq (Nat.le_refl _) (Nat.le_refl _) d_Pl_entriesOf_26 ⟨by first | rw [if_pos (zgt h1)] | rw [if_neg (zngt h1)], rfl, rfl⟩
  · refine z_aload_n hx 0 d_Pl_entriesOf_7 rfl ?_
    refine z_iload_n hx 1 d_Pl_entriesOf_8 rfl ?_
    refine z_cV hx (c_Pl_weightOf hk) k_Pl rfl ⟨a2_210, a2_213, a1_2, ⟨by decide +kernel, by decide +kernel⟩, fun sig h => by cases h; rfl⟩ a2_211 a2_212 rfl rfl d_Pl_entriesOf_9 (by rw [hrm]; exact ⟨Nat.le_of_ble_eq_true rfl, Nat.le_of_ble_eq_true rfl, Nat.le_of_ble_eq_true rfl, Nat.le_of_ble_eq_true rfl⟩) ?_
    show zV x ad (Lay K ad S) _ _ _ 12 [.int (S.2.2 2 k)]
    refine z_aload_n hx 0 d_Pl_entriesOf_12 rfl ?_
    refine z_get hx k_Pl (t := 1) rfl 3 (by decide) a1_38 rfl d_Pl_entriesOf_13 ?_
    refine z_aload_n hx 0 d_Pl_entriesOf_16 rfl ?_
    refine z_get hx k_Pl (t := 1) rfl 2 (by decide) a1_37 rfl d_Pl_entriesOf_17 ?_
    refine z_idiv hx d_Pl_entriesOf_20 (fun h => by rw [h] at h1; exact h1 (by decide)) ?_
    refine z_imul hx d_Pl_entriesOf_21 ?_
    refine z_goto (tgt := 26) hx d_Pl_entriesOf_22 (by decide) ?_
    exact z_iret hx hr rfl hq (Nat.le_refl _) (Nat.le_refl _) d_Pl_entriesOf_26 ⟨by first | rw [if_pos (zgt h1)] | rw [if_neg (zngt h1)], rfl, rfl⟩
set_option maxRecDepth 20000 in
theorem c_Sh_use {l : Launch} {D : va_G} {K : Nat → ClassId} {ad : Nat → Nat} {S : zSt} {k : Nat} {p : Int32} (hk : k < 1000) : zC l TB D zcls (ztyl K) y_Sh_use (.code y_Sh_use b_Sh_use 3 (none : Option FieldType)) (rmk 1 20) [.ref (ad 4), .int (nI k), .int p] ad (Lay K ad S) (zP K ad none (stM (stM S 7 k 3) 8 k p)) := by
  refine zC.of (by decide +kernel) (Nat.le_of_ble_eq_true rfl) ?_
  intro x hx hr hml hnm hrm hq hNH
  show zV x ad (Lay K ad S) 0 0 [(0, .ref (ad 4)), (1, .int (nI k)), (2, .int p)] 0 []
  refine z_iload_n hx 1 d_Sh_use_0 rfl ?_
  refine z_cS hx (c_Sh_isKit hk) ⟨a2_131, a2_133, a1_4, ⟨by decide +kernel, by decide +kernel⟩, fun sig h => by cases h; rfl⟩ a2_132 rfl rfl d_Sh_use_1 (by rw [hrm]; exact ⟨Nat.le_of_ble_eq_true rfl, Nat.le_of_ble_eq_true rfl, Nat.le_of_ble_eq_true rfl, Nat.le_of_ble_eq_true rfl⟩) ?_
  show zV x ad (Lay K ad S) _ _ _ 4 [.int 1]
  refine z_if_eq (tgt := 21) hx d_Sh_use_4 (by decide) (fun h => absurd h (by decide)) (fun _ => ?_)
  refine z_aload_n hx 0 d_Sh_use_7 rfl ?_
  refine z_get hx k_Sh (t := 4) rfl 2 (by decide) a1_77 rfl d_Sh_use_8 ?_
  refine z_iload_n hx 1 d_Sh_use_11 rfl ?_
  refine z_iconst (v := 3) hx d_Sh_use_12 rfl ?_
  refine z_iastK hx 0 rfl (t := 7) rfl (k := k) (by omega) (by first | decide | omega)  d_Sh_use_13 (ce1 := Lay K ad (stM S 7 k 3)) (Lay_put (by decide) rfl) ?_
  refine z_aload_n hx 0 d_Sh_use_14 rfl ?_
  refine z_get hx k_Sh (t := 4) rfl 3 (by decide) a1_78 rfl d_Sh_use_15 ?_
  refine z_iload_n hx 1 d_Sh_use_18 rfl ?_
  refine z_iload_n hx 2 d_Sh_use_19 rfl ?_
  refine z_iastK hx 0 rfl (t := 8) rfl (k := k) (by omega) (by first | decide | omega)  d_Sh_use_20 (ce1 := Lay K ad (stM (stM S 7 k 3) 8 k p)) (Lay_put (by decide) rfl) ?_
  exact z_vret hx hr hq (Nat.le_refl _) (Nat.le_refl _) d_Sh_use_21 ⟨rfl, rfl, rfl⟩
set_option maxRecDepth 20000 in
theorem c_Sh_armOf {l : Launch} {D : va_G} {K : Nat → ClassId} {ad : Nat → Nat} {S : zSt} {k : Nat} (hk : k < 1000) : zC l TB D zcls (ztyl K) y_Sh_armOf (.code y_Sh_armOf b_Sh_armOf 2 (some FieldType.int)) (rmk 1 20) [.ref (ad 4), .int (nI k)] ad (Lay K ad S) (zP K ad (some (.int (S.2.2 6 k))) S) := by
  refine zC.of (by decide +kernel) (Nat.le_of_ble_eq_true rfl) ?_
  intro x hx hr hml hnm hrm hq hNH
  show zV x ad (Lay K ad S) 0 0 [(0, .ref (ad 4)), (1, .int (nI k))] 0 []
  refine z_iload_n hx 1 d_Sh_armOf_0 rfl ?_
  refine z_cS hx (c_Sh_isKit hk) ⟨a2_131, a2_133, a1_4, ⟨by decide +kernel, by decide +kernel⟩, fun sig h => by cases h; rfl⟩ a2_132 rfl rfl d_Sh_armOf_1 (by rw [hrm]; exact ⟨Nat.le_of_ble_eq_true rfl, Nat.le_of_ble_eq_true rfl, Nat.le_of_ble_eq_true rfl, Nat.le_of_ble_eq_true rfl⟩) ?_
  show zV x ad (Lay K ad S) _ _ _ 4 [.int 1]
  refine z_if_eq (tgt := 16) hx d_Sh_armOf_4 (by decide) (fun h => absurd h (by decide)) (fun _ => ?_)
  refine z_aload_n hx 0 d_Sh_armOf_7 rfl ?_
  refine z_get hx k_Sh (t := 4) rfl 1 (by decide) a1_76 rfl d_Sh_armOf_8 ?_
  refine z_iload_n hx 1 d_Sh_armOf_11 rfl ?_
  refine z_ialdK hx 0 rfl (t := 6) rfl (k := k) (by omega) (by first | decide | omega) d_Sh_armOf_12 ?_
  refine z_goto (tgt := 17) hx d_Sh_armOf_13 (by decide) ?_
  exact z_iret hx hr rfl hq (Nat.le_refl _) (Nat.le_refl _) d_Sh_armOf_17 ⟨rfl, rfl, rfl⟩
set_option maxRecDepth 20000 in
theorem c_Sh_userOf {l : Launch} {D : va_G} {K : Nat → ClassId} {ad : Nat → Nat} {S : zSt} {k : Nat} (hk : k < 1000) : zC l TB D zcls (ztyl K) y_Sh_userOf (.code y_Sh_userOf b_Sh_userOf 2 (some FieldType.int)) (rmk 1 20) [.ref (ad 4), .int (nI k)] ad (Lay K ad S) (zP K ad (some (.int (if S.2.2 7 k = 3 then S.2.2 5 k * 100 + S.2.2 8 k else -1))) S) := by
  refine zC.of (by decide +kernel) (Nat.le_of_ble_eq_true rfl) ?_
  intro x hx hr hml hnm hrm hq hNH
  show zV x ad (Lay K ad S) 0 0 [(0, .ref (ad 4)), (1, .int (nI k))] 0 []
  refine z_iload_n hx 1 d_Sh_userOf_0 rfl ?_
  refine z_cS hx (c_Sh_isKit hk) ⟨a2_131, a2_133, a1_4, ⟨by decide +kernel, by decide +kernel⟩, fun sig h => by cases h; rfl⟩ a2_132 rfl rfl d_Sh_userOf_1 (by rw [hrm]; exact ⟨Nat.le_of_ble_eq_true rfl, Nat.le_of_ble_eq_true rfl, Nat.le_of_ble_eq_true rfl, Nat.le_of_ble_eq_true rfl⟩) ?_
  show zV x ad (Lay K ad S) _ _ _ 4 [.int 1]
  refine z_if_eq (tgt := 36) hx d_Sh_userOf_4 (by decide) (fun h => absurd h (by decide)) (fun _ => ?_)
  refine z_aload_n hx 0 d_Sh_userOf_7 rfl ?_
  refine z_get hx k_Sh (t := 4) rfl 2 (by decide) a1_77 rfl d_Sh_userOf_8 ?_
  refine z_iload_n hx 1 d_Sh_userOf_11 rfl ?_
  refine z_ialdK hx 0 rfl (t := 7) rfl (k := k) (by omega) (by first | decide | omega) d_Sh_userOf_12 ?_
  refine z_iconst (v := 3) hx d_Sh_userOf_13 rfl ?_
  refine z_icmp_ne (tgt := 36) hx d_Sh_userOf_14 (by decide) (fun h1 => ?_) (fun h1 => ?_)
  · refine z_iconst (v := (-1)) hx d_Sh_userOf_36 rfl ?_
    exact z_iret hx hr rfl hq (Nat.le_refl _) (Nat.le_refl _) d_Sh_userOf_37 ⟨by simp [h1], rfl, by simp [h1]⟩
  · refine z_aload_n hx 0 d_Sh_userOf_17 rfl ?_
    refine z_get hx k_Sh (t := 4) rfl 0 (by decide) a1_75 rfl d_Sh_userOf_18 ?_
    refine z_iload_n hx 1 d_Sh_userOf_21 rfl ?_
    refine z_ialdK hx 0 rfl (t := 5) rfl (k := k) (by omega) (by first | decide | omega) d_Sh_userOf_22 ?_
    refine z_bipush (v := 100) hx d_Sh_userOf_23 rfl ?_
    refine z_imul hx d_Sh_userOf_25 ?_
    refine z_aload_n hx 0 d_Sh_userOf_26 rfl ?_
    refine z_get hx k_Sh (t := 4) rfl 3 (by decide) a1_78 rfl d_Sh_userOf_27 ?_
    refine z_iload_n hx 1 d_Sh_userOf_30 rfl ?_
    refine z_ialdK hx 0 rfl (t := 8) rfl (k := k) (by omega) (by first | decide | omega) d_Sh_userOf_31 ?_
    refine z_iadd hx d_Sh_userOf_32 ?_
    refine z_goto (tgt := 37) hx d_Sh_userOf_33 (by decide) ?_
    exact z_iret hx hr rfl hq (Nat.le_refl _) (Nat.le_refl _) d_Sh_userOf_37 ⟨by simp [h1], rfl, by simp [h1]⟩
set_option maxRecDepth 20000 in
theorem c_Sh_isFree {l : Launch} {D : va_G} {K : Nat → ClassId} {ad : Nat → Nat} {S : zSt} {k : Nat} {s r : Int32} (hk : k < 1000) : zC l TB D zcls (ztyl K) y_Sh_isFree (.code y_Sh_isFree b_Sh_isFree 4 (some FieldType.boolean)) (rmk 1 20) [.ref (ad 4), .int (nI k), .int s, .int r] ad (Lay K ad S) (zP K ad (some (.int (if S.2.2 7 k = 1 ∧ S.2.2 5 k = s ∧ S.2.2 6 k = r then 1 else 0))) S) := by
  refine zC.of (by decide +kernel) (Nat.le_of_ble_eq_true rfl) ?_
  intro x hx hr hml hnm hrm hq hNH
  show zV x ad (Lay K ad S) 0 0 [(0, .ref (ad 4)), (1, .int (nI k)), (2, .int s), (3, .int r)] 0 []
  refine z_iload_n hx 1 d_Sh_isFree_0 rfl ?_
  refine z_cS hx (c_Sh_isKit hk) ⟨a2_131, a2_133, a1_4, ⟨by decide +kernel, by decide +kernel⟩, fun sig h => by cases h; rfl⟩ a2_132 rfl rfl d_Sh_isFree_1 (by rw [hrm]; exact ⟨Nat.le_of_ble_eq_true rfl, Nat.le_of_ble_eq_true rfl, Nat.le_of_ble_eq_true rfl, Nat.le_of_ble_eq_true rfl⟩) ?_
  show zV x ad (Lay K ad S) _ _ _ 4 [.int 1]
  refine z_if_eq (tgt := 41) hx d_Sh_isFree_4 (by decide) (fun h => absurd h (by decide)) (fun _ => ?_)
  refine z_aload_n hx 0 d_Sh_isFree_7 rfl ?_
  refine z_get hx k_Sh (t := 4) rfl 2 (by decide) a1_77 rfl d_Sh_isFree_8 ?_
  refine z_iload_n hx 1 d_Sh_isFree_11 rfl ?_
  refine z_ialdK hx 0 rfl (t := 7) rfl (k := k) (by omega) (by first | decide | omega) d_Sh_isFree_12 ?_
  refine z_iconst (v := 1) hx d_Sh_isFree_13 rfl ?_
  refine z_icmp_ne (tgt := 41) hx d_Sh_isFree_14 (by decide) (fun h1 => ?_) (fun h1 => ?_)
  · refine z_iconst (v := 0) hx d_Sh_isFree_41 rfl ?_
    exact z_iret hx hr rfl hq (Nat.le_refl _) (Nat.le_refl _) d_Sh_isFree_42 ⟨by simp [h1], rfl, by simp [h1]⟩
  · refine z_aload_n hx 0 d_Sh_isFree_17 rfl ?_
    refine z_get hx k_Sh (t := 4) rfl 0 (by decide) a1_75 rfl d_Sh_isFree_18 ?_
    refine z_iload_n hx 1 d_Sh_isFree_21 rfl ?_
    refine z_ialdK hx 0 rfl (t := 5) rfl (k := k) (by omega) (by first | decide | omega) d_Sh_isFree_22 ?_
    refine z_iload_n hx 2 d_Sh_isFree_23 rfl ?_
    refine z_icmp_ne (tgt := 41) hx d_Sh_isFree_24 (by decide) (fun h2 => ?_) (fun h2 => ?_)
    · refine z_iconst (v := 0) hx d_Sh_isFree_41 rfl ?_
      exact z_iret hx hr rfl hq (Nat.le_refl _) (Nat.le_refl _) d_Sh_isFree_42 ⟨by simp [h1, h2], rfl, by simp [h1, h2]⟩
    · refine z_aload_n hx 0 d_Sh_isFree_27 rfl ?_
      refine z_get hx k_Sh (t := 4) rfl 1 (by decide) a1_76 rfl d_Sh_isFree_28 ?_
      refine z_iload_n hx 1 d_Sh_isFree_31 rfl ?_
      refine z_ialdK hx 0 rfl (t := 6) rfl (k := k) (by omega) (by first | decide | omega) d_Sh_isFree_32 ?_
      refine z_iload_n hx 3 d_Sh_isFree_33 rfl ?_
      refine z_icmp_ne (tgt := 41) hx d_Sh_isFree_34 (by decide) (fun h3 => ?_) (fun h3 => ?_)
      · refine z_iconst (v := 0) hx d_Sh_isFree_41 rfl ?_
        exact z_iret hx hr rfl hq (Nat.le_refl _) (Nat.le_refl _) d_Sh_isFree_42 ⟨by simp [h1, h2, h3], rfl, by simp [h1, h2, h3]⟩
      · refine z_iconst (v := 1) hx d_Sh_isFree_37 rfl ?_
        refine z_goto (tgt := 42) hx d_Sh_isFree_38 (by decide) ?_
        exact z_iret hx hr rfl hq (Nat.le_refl _) (Nat.le_refl _) d_Sh_isFree_42 ⟨by simp [h1, h2, h3], rfl, by simp [h1, h2, h3]⟩
set_option maxRecDepth 20000 in
theorem c_Si_isAllotted {l : Launch} {D : va_G} {K : Nat → ClassId} {ad : Nat → Nat} {S : zSt} {i p : Nat} (hi : i < 10) (ho : S.2.2 9 i ≠ 0) (hp : p < 100) : zC l TB D zcls (ztyl K) y_Si_isAllotted (.code y_Si_isAllotted b_Si_isAllotted 2 (some FieldType.boolean)) (rmk 1 20) [.ref (ad (100 + i)), .int (nI p)] ad (Lay K ad S) (zP K ad (some (.int (if S.2.2 (110 + i) p = 0 then 0 else 1))) S) := by
  refine zC.of (by decide +kernel) (Nat.le_of_ble_eq_true rfl) ?_
  intro x hx hr hml hnm hrm hq hNH
  show zV x ad (Lay K ad S) 0 0 [(0, .ref (ad (100 + i))), (1, .int (nI p))] 0 []
  refine z_iload_n hx 1 d_Si_isAllotted_0 rfl ?_
  refine z_cS hx (c_Si_isPerson hp) ⟨a2_160, a2_162, a1_13, ⟨by decide +kernel, by decide +kernel⟩, fun sig h => by cases h; rfl⟩ a2_161 rfl rfl d_Si_isAllotted_1 (by rw [hrm]; exact ⟨Nat.le_of_ble_eq_true rfl, Nat.le_of_ble_eq_true rfl, Nat.le_of_ble_eq_true rfl, Nat.le_of_ble_eq_true rfl⟩) ?_
  show zV x ad (Lay K ad S) _ _ _ 4 [.int 1]
  refine z_if_eq (tgt := 20) hx d_Si_isAllotted_4 (by decide) (fun h => absurd h (by decide)) (fun _ => ?_)
  refine z_aload_n hx 0 d_Si_isAllotted_7 rfl ?_
  refine z_get hx k_Si (t := 100 + i) (Lay_Si hi ho) 0 (by decide) a2_85 rfl d_Si_isAllotted_8 ?_
  refine z_iload_n hx 1 d_Si_isAllotted_11 rfl ?_
  refine z_ialdK hx 0 rfl (t := 110 + i) (Lay_r0 hi ho) (k := p) (by omega) (by first | decide | omega) d_Si_isAllotted_12 ?_
  refine z_if_eq (tgt := 20) hx d_Si_isAllotted_13 (by decide) (fun h1 => ?_) (fun h1 => ?_)
  · refine z_iconst (v := 0) hx d_Si_isAllotted_20 rfl ?_
    exact z_iret hx hr rfl hq (Nat.le_refl _) (Nat.le_refl _) d_Si_isAllotted_21 ⟨by simp [h1], rfl, by simp [h1]⟩
  · refine z_iconst (v := 1) hx d_Si_isAllotted_16 rfl ?_
    refine z_goto (tgt := 21) hx d_Si_isAllotted_17 (by decide) ?_
    exact z_iret hx hr rfl hq (Nat.le_refl _) (Nat.le_refl _) d_Si_isAllotted_21 ⟨by simp [h1], rfl, by simp [h1]⟩
set_option maxRecDepth 20000 in
theorem c_Si_isKnown {l : Launch} {D : va_G} {K : Nat → ClassId} {ad : Nat → Nat} {S : zSt} {i p : Nat} (hi : i < 10) (ho : S.2.2 9 i ≠ 0) (hp : p < 100) : zC l TB D zcls (ztyl K) y_Si_isKnown (.code y_Si_isKnown b_Si_isKnown 2 (some FieldType.boolean)) (rmk 1 20) [.ref (ad (100 + i)), .int (nI p)] ad (Lay K ad S) (zP K ad (some (.int (if S.2.2 (110 + i) p = 2 then 1 else 0))) S) := by
  refine zC.of (by decide +kernel) (Nat.le_of_ble_eq_true rfl) ?_
  intro x hx hr hml hnm hrm hq hNH
  show zV x ad (Lay K ad S) 0 0 [(0, .ref (ad (100 + i))), (1, .int (nI p))] 0 []
  refine z_iload_n hx 1 d_Si_isKnown_0 rfl ?_
  refine z_cS hx (c_Si_isPerson hp) ⟨a2_160, a2_162, a1_13, ⟨by decide +kernel, by decide +kernel⟩, fun sig h => by cases h; rfl⟩ a2_161 rfl rfl d_Si_isKnown_1 (by rw [hrm]; exact ⟨Nat.le_of_ble_eq_true rfl, Nat.le_of_ble_eq_true rfl, Nat.le_of_ble_eq_true rfl, Nat.le_of_ble_eq_true rfl⟩) ?_
  show zV x ad (Lay K ad S) _ _ _ 4 [.int 1]
  refine z_if_eq (tgt := 21) hx d_Si_isKnown_4 (by decide) (fun h => absurd h (by decide)) (fun _ => ?_)
  refine z_aload_n hx 0 d_Si_isKnown_7 rfl ?_
  refine z_get hx k_Si (t := 100 + i) (Lay_Si hi ho) 0 (by decide) a2_85 rfl d_Si_isKnown_8 ?_
  refine z_iload_n hx 1 d_Si_isKnown_11 rfl ?_
  refine z_ialdK hx 0 rfl (t := 110 + i) (Lay_r0 hi ho) (k := p) (by omega) (by first | decide | omega) d_Si_isKnown_12 ?_
  refine z_iconst (v := 2) hx d_Si_isKnown_13 rfl ?_
  refine z_icmp_ne (tgt := 21) hx d_Si_isKnown_14 (by decide) (fun h1 => ?_) (fun h1 => ?_)
  · refine z_iconst (v := 0) hx d_Si_isKnown_21 rfl ?_
    exact z_iret hx hr rfl hq (Nat.le_refl _) (Nat.le_refl _) d_Si_isKnown_22 ⟨by simp [h1], rfl, by simp [h1]⟩
  · refine z_iconst (v := 1) hx d_Si_isKnown_17 rfl ?_
    refine z_goto (tgt := 22) hx d_Si_isKnown_18 (by decide) ?_
    exact z_iret hx hr rfl hq (Nat.le_refl _) (Nat.le_refl _) d_Si_isKnown_22 ⟨by simp [h1], rfl, by simp [h1]⟩
set_option maxRecDepth 20000 in
theorem c_Si_enrol {l : Launch} {D : va_G} {K : Nat → ClassId} {ad : Nat → Nat} {S : zSt} {i p : Nat} (hi : i < 10) (ho : S.2.2 9 i ≠ 0) (hp : p < 100) {s a w : Int32} : zC l TB D zcls (ztyl K) y_Si_enrol (.code y_Si_enrol b_Si_enrol 5 (none : Option FieldType)) (rmk 1 20) [.ref (ad (100 + i)), .int (nI p), .int s, .int a, .int w] ad (Lay K ad S) (zP K ad none (stM (stM (stM S (110 + i) p w) (120 + i) p s) (130 + i) p a)) := by
  refine zC.of (by decide +kernel) (Nat.le_of_ble_eq_true rfl) ?_
  intro x hx hr hml hnm hrm hq hNH
  show zV x ad (Lay K ad S) 0 0 [(0, .ref (ad (100 + i))), (1, .int (nI p)), (2, .int s), (3, .int a), (4, .int w)] 0 []
  refine z_iload_n hx 1 d_Si_enrol_0 rfl ?_
  refine z_cS hx (c_Si_isPerson hp) ⟨a2_160, a2_162, a1_13, ⟨by decide +kernel, by decide +kernel⟩, fun sig h => by cases h; rfl⟩ a2_161 rfl rfl d_Si_enrol_1 (by rw [hrm]; exact ⟨Nat.le_of_ble_eq_true rfl, Nat.le_of_ble_eq_true rfl, Nat.le_of_ble_eq_true rfl, Nat.le_of_ble_eq_true rfl⟩) ?_
  show zV x ad (Lay K ad S) _ _ _ 4 [.int 1]
  refine z_if_eq (tgt := 29) hx d_Si_enrol_4 (by decide) (fun h => absurd h (by decide)) (fun _ => ?_)
  refine z_aload_n hx 0 d_Si_enrol_7 rfl ?_
  refine z_get hx k_Si (t := 100 + i) (Lay_Si hi ho) 0 (by decide) a2_85 rfl d_Si_enrol_8 ?_
  refine z_iload_n hx 1 d_Si_enrol_11 rfl ?_
  refine z_iload hx 4 d_Si_enrol_12 rfl ?_
  refine z_iastK hx 0 rfl (t := 110 + i) (Lay_r0 hi ho) (k := p) (by omega) (by first | decide | omega)  d_Si_enrol_14 (ce1 := Lay K ad (stM S (110 + i) p w)) (put_r0 hi ho) ?_
  refine z_aload_n hx 0 d_Si_enrol_15 rfl ?_
  refine z_get hx k_Si (t := 100 + i) (Lay_Si hi (ho_n (by omega) ho)) 1 (by decide) a2_86 rfl d_Si_enrol_16 ?_
  refine z_iload_n hx 1 d_Si_enrol_19 rfl ?_
  refine z_iload_n hx 2 d_Si_enrol_20 rfl ?_
  refine z_iastK hx 0 rfl (t := 120 + i) (Lay_r1 hi (ho_n (by omega) ho)) (k := p) (by omega) (by first | decide | omega)  d_Si_enrol_21 (ce1 := Lay K ad (stM (stM S (110 + i) p w) (120 + i) p s)) (put_r1 hi (ho_n (by omega) ho)) ?_
  refine z_aload_n hx 0 d_Si_enrol_22 rfl ?_
  refine z_get hx k_Si (t := 100 + i) (Lay_Si hi (ho_n (by omega) (ho_n (by omega) ho))) 2 (by decide) a2_87 rfl d_Si_enrol_23 ?_
  refine z_iload_n hx 1 d_Si_enrol_26 rfl ?_
  refine z_iload_n hx 3 d_Si_enrol_27 rfl ?_
  refine z_iastK hx 0 rfl (t := 130 + i) (Lay_r2 hi (ho_n (by omega) (ho_n (by omega) ho))) (k := p) (by omega) (by first | decide | omega)  d_Si_enrol_28 (ce1 := Lay K ad (stM (stM (stM S (110 + i) p w) (120 + i) p s) (130 + i) p a)) (put_r2 hi (ho_n (by omega) (ho_n (by omega) ho))) ?_
  exact z_vret hx hr hq (Nat.le_refl _) (Nat.le_refl _) d_Si_enrol_29 ⟨rfl, rfl, rfl⟩
set_option maxRecDepth 20000 in
theorem c_Si_tell {l : Launch} {D : va_G} {K : Nat → ClassId} {ad : Nat → Nat} {S : zSt} {i p : Nat} (hi : i < 10) (ho : S.2.2 9 i ≠ 0) (hp : p < 100) : zC l TB D zcls (ztyl K) y_Si_tell (.code y_Si_tell b_Si_tell 2 (some FieldType.boolean)) (rmk 1 20) [.ref (ad (100 + i)), .int (nI p)] ad (Lay K ad S) (zP K ad (some (.int (if S.2.2 (110 + i) p = 1 then 1 else 0))) (if S.2.2 (110 + i) p = 1 then stM S (110 + i) p 2 else S)) := by
  refine zC.of (by decide +kernel) (Nat.le_of_ble_eq_true rfl) ?_
  intro x hx hr hml hnm hrm hq hNH
  show zV x ad (Lay K ad S) 0 0 [(0, .ref (ad (100 + i))), (1, .int (nI p))] 0 []
  refine z_iload_n hx 1 d_Si_tell_0 rfl ?_
  refine z_cS hx (c_Si_isPerson hp) ⟨a2_160, a2_162, a1_13, ⟨by decide +kernel, by decide +kernel⟩, fun sig h => by cases h; rfl⟩ a2_161 rfl rfl d_Si_tell_1 (by rw [hrm]; exact ⟨Nat.le_of_ble_eq_true rfl, Nat.le_of_ble_eq_true rfl, Nat.le_of_ble_eq_true rfl, Nat.le_of_ble_eq_true rfl⟩) ?_
  show zV x ad (Lay K ad S) _ _ _ 4 [.int 1]
  refine z_if_eq (tgt := 26) hx d_Si_tell_4 (by decide) (fun h => absurd h (by decide)) (fun _ => ?_)
  refine z_aload_n hx 0 d_Si_tell_7 rfl ?_
  refine z_get hx k_Si (t := 100 + i) (Lay_Si hi ho) 0 (by decide) a2_85 rfl d_Si_tell_8 ?_
  refine z_iload_n hx 1 d_Si_tell_11 rfl ?_
  refine z_ialdK hx 0 rfl (t := 110 + i) (Lay_r0 hi ho) (k := p) (by omega) (by first | decide | omega) d_Si_tell_12 ?_
  refine z_iconst (v := 1) hx d_Si_tell_13 rfl ?_
  refine z_icmp_ne (tgt := 26) hx d_Si_tell_14 (by decide) (fun h1 => ?_) (fun h1 => ?_)
  · refine z_iconst (v := 0) hx d_Si_tell_26 rfl ?_
    exact z_iret hx hr rfl hq (Nat.le_refl _) (Nat.le_refl _) d_Si_tell_27 ⟨by simp [h1], rfl, by simp [h1]⟩
  · refine z_aload_n hx 0 d_Si_tell_17 rfl ?_
    refine z_get hx k_Si (t := 100 + i) (Lay_Si hi ho) 0 (by decide) a2_85 rfl d_Si_tell_18 ?_
    refine z_iload_n hx 1 d_Si_tell_21 rfl ?_
    refine z_iconst (v := 2) hx d_Si_tell_22 rfl ?_
    refine z_iastK hx 0 rfl (t := 110 + i) (Lay_r0 hi ho) (k := p) (by omega) (by first | decide | omega)  d_Si_tell_23 (ce1 := Lay K ad (stM S (110 + i) p 2)) (put_r0 hi ho) ?_
    refine z_iconst (v := 1) hx d_Si_tell_24 rfl ?_
    exact z_iret hx hr rfl hq (Nat.le_refl _) (Nat.le_refl _) d_Si_tell_25 ⟨by simp [h1], rfl, by simp [h1]⟩
set_option maxRecDepth 20000 in
theorem c_Si_stratumOf {l : Launch} {D : va_G} {K : Nat → ClassId} {ad : Nat → Nat} {S : zSt} {i p : Nat} (hi : i < 10) (ho : S.2.2 9 i ≠ 0) (hp : p < 100) : zC l TB D zcls (ztyl K) y_Si_stratumOf (.code y_Si_stratumOf b_Si_stratumOf 2 (some FieldType.int)) (rmk 1 20) [.ref (ad (100 + i)), .int (nI p)] ad (Lay K ad S) (zP K ad (some (.int (S.2.2 (120 + i) p))) S) := by
  refine zC.of (by decide +kernel) (Nat.le_of_ble_eq_true rfl) ?_
  intro x hx hr hml hnm hrm hq hNH
  show zV x ad (Lay K ad S) 0 0 [(0, .ref (ad (100 + i))), (1, .int (nI p))] 0 []
  refine z_iload_n hx 1 d_Si_stratumOf_0 rfl ?_
  refine z_cS hx (c_Si_isPerson hp) ⟨a2_160, a2_162, a1_13, ⟨by decide +kernel, by decide +kernel⟩, fun sig h => by cases h; rfl⟩ a2_161 rfl rfl d_Si_stratumOf_1 (by rw [hrm]; exact ⟨Nat.le_of_ble_eq_true rfl, Nat.le_of_ble_eq_true rfl, Nat.le_of_ble_eq_true rfl, Nat.le_of_ble_eq_true rfl⟩) ?_
  show zV x ad (Lay K ad S) _ _ _ 4 [.int 1]
  refine z_if_eq (tgt := 16) hx d_Si_stratumOf_4 (by decide) (fun h => absurd h (by decide)) (fun _ => ?_)
  refine z_aload_n hx 0 d_Si_stratumOf_7 rfl ?_
  refine z_get hx k_Si (t := 100 + i) (Lay_Si hi ho) 1 (by decide) a2_86 rfl d_Si_stratumOf_8 ?_
  refine z_iload_n hx 1 d_Si_stratumOf_11 rfl ?_
  refine z_ialdK hx 0 rfl (t := 120 + i) (Lay_r1 hi ho) (k := p) (by omega) (by first | decide | omega) d_Si_stratumOf_12 ?_
  refine z_goto (tgt := 17) hx d_Si_stratumOf_13 (by decide) ?_
  exact z_iret hx hr rfl hq (Nat.le_refl _) (Nat.le_refl _) d_Si_stratumOf_17 ⟨rfl, rfl, rfl⟩
set_option maxRecDepth 20000 in
theorem c_Si_armOf {l : Launch} {D : va_G} {K : Nat → ClassId} {ad : Nat → Nat} {S : zSt} {i p : Nat} (hi : i < 10) (ho : S.2.2 9 i ≠ 0) (hp : p < 100) : zC l TB D zcls (ztyl K) y_Si_armOf (.code y_Si_armOf b_Si_armOf 2 (some FieldType.int)) (rmk 1 20) [.ref (ad (100 + i)), .int (nI p)] ad (Lay K ad S) (zP K ad (some (.int (S.2.2 (130 + i) p))) S) := by
  refine zC.of (by decide +kernel) (Nat.le_of_ble_eq_true rfl) ?_
  intro x hx hr hml hnm hrm hq hNH
  show zV x ad (Lay K ad S) 0 0 [(0, .ref (ad (100 + i))), (1, .int (nI p))] 0 []
  refine z_iload_n hx 1 d_Si_armOf_0 rfl ?_
  refine z_cS hx (c_Si_isPerson hp) ⟨a2_160, a2_162, a1_13, ⟨by decide +kernel, by decide +kernel⟩, fun sig h => by cases h; rfl⟩ a2_161 rfl rfl d_Si_armOf_1 (by rw [hrm]; exact ⟨Nat.le_of_ble_eq_true rfl, Nat.le_of_ble_eq_true rfl, Nat.le_of_ble_eq_true rfl, Nat.le_of_ble_eq_true rfl⟩) ?_
  show zV x ad (Lay K ad S) _ _ _ 4 [.int 1]
  refine z_if_eq (tgt := 16) hx d_Si_armOf_4 (by decide) (fun h => absurd h (by decide)) (fun _ => ?_)
  refine z_aload_n hx 0 d_Si_armOf_7 rfl ?_
  refine z_get hx k_Si (t := 100 + i) (Lay_Si hi ho) 2 (by decide) a2_87 rfl d_Si_armOf_8 ?_
  refine z_iload_n hx 1 d_Si_armOf_11 rfl ?_
  refine z_ialdK hx 0 rfl (t := 130 + i) (Lay_r2 hi ho) (k := p) (by omega) (by first | decide | omega) d_Si_armOf_12 ?_
  refine z_goto (tgt := 17) hx d_Si_armOf_13 (by decide) ?_
  exact z_iret hx hr rfl hq (Nat.le_refl _) (Nat.le_refl _) d_Si_armOf_17 ⟨rfl, rfl, rfl⟩
set_option maxRecDepth 20000 in
theorem c_Si_addKey {l : Launch} {D : va_G} {K : Nat → ClassId} {ad : Nat → Nat} {S : zSt} {i p : Nat} (hi : i < 10) (ho : S.2.2 9 i ≠ 0) (hp : p < 100) {h : Int32} : zC l TB D zcls (ztyl K) y_Si_addKey (.code y_Si_addKey b_Si_addKey 3 (none : Option FieldType)) (rmk 1 20) [.ref (ad (100 + i)), .int (nI p), .int h] ad (Lay K ad S) (zP K ad none (stM S (140 + i) p (S.2.2 (140 + i) p ||| 1 <<< (h &&& 31)))) := by
  refine zC.of (by decide +kernel) (Nat.le_of_ble_eq_true rfl) ?_
  intro x hx hr hml hnm hrm hq hNH
  show zV x ad (Lay K ad S) 0 0 [(0, .ref (ad (100 + i))), (1, .int (nI p)), (2, .int h)] 0 []
  refine z_iload_n hx 1 d_Si_addKey_0 rfl ?_
  refine z_cS hx (c_Si_isPerson hp) ⟨a2_160, a2_162, a1_13, ⟨by decide +kernel, by decide +kernel⟩, fun sig h => by cases h; rfl⟩ a2_161 rfl rfl d_Si_addKey_1 (by rw [hrm]; exact ⟨Nat.le_of_ble_eq_true rfl, Nat.le_of_ble_eq_true rfl, Nat.le_of_ble_eq_true rfl, Nat.le_of_ble_eq_true rfl⟩) ?_
  show zV x ad (Lay K ad S) _ _ _ 4 [.int 1]
  refine z_if_eq (tgt := 19) hx d_Si_addKey_4 (by decide) (fun h => absurd h (by decide)) (fun _ => ?_)
  refine z_aload_n hx 0 d_Si_addKey_7 rfl ?_
  refine z_get hx k_Si (t := 100 + i) (Lay_Si hi ho) 3 (by decide) a2_88 rfl d_Si_addKey_8 ?_
  refine z_iload_n hx 1 d_Si_addKey_11 rfl ?_
  refine z_dup2_11 hx d_Si_addKey_12 rfl rfl ?_
  refine z_ialdK hx 0 rfl (t := 140 + i) (Lay_r3 hi ho) (k := p) (by omega) (by first | decide | omega) d_Si_addKey_13 ?_
  refine z_iconst (v := 1) hx d_Si_addKey_14 rfl ?_
  refine z_iload_n hx 2 d_Si_addKey_15 rfl ?_
  refine z_ishl hx d_Si_addKey_16 ?_
  refine z_ior hx d_Si_addKey_17 ?_
  refine z_iastK hx 0 rfl (t := 140 + i) (Lay_r3 hi ho) (k := p) (by omega) (by first | decide | omega)  d_Si_addKey_18 (ce1 := Lay K ad (stM S (140 + i) p ((S.2.2 (140 + i) p) ||| (1 <<< (h &&& 31))))) (put_r3 hi ho) ?_
  exact z_vret hx hr hq (Nat.le_refl _) (Nat.le_refl _) d_Si_addKey_19 ⟨rfl, rfl, rfl⟩
set_option maxRecDepth 20000 in
theorem c_Re_drop {l : Launch} {D : va_G} {K : Nat → ClassId} {ad : Nat → Nat} {S : zSt} {i k : Nat} (hi : i < 10) (hk : k < 8) (ho : S.2.2 9 i ≠ 0) : zC l TB D zcls (ztyl K) y_Re_drop (.code y_Re_drop b_Re_drop 1 (none : Option FieldType)) (rmk 0 0) [.ref (ad (200 + 8 * i + k))] ad (Lay K ad S) (zP K ad none (stM (stM S (200 + 8 * i + k) 1 0) (200 + 8 * i + k) 2 0)) := by
  refine zC.of (by decide +kernel) (Nat.le_of_ble_eq_true rfl) ?_
  intro x hx hr hml hnm hrm hq hNH
  show zV x ad (Lay K ad S) 0 0 [(0, .ref (ad (200 + 8 * i + k)))] 0 []
  refine z_aload_n hx 0 d_Re_drop_0 rfl ?_
  refine z_iconst (v := 0) hx d_Re_drop_1 rfl ?_
  refine z_put hx k_Re (t := 200 + 8 * i + k) (Lay_Re hi hk ho) 1 (by decide) a2_72 rfl rfl rfl (Nat.le_of_ble_eq_true rfl) d_Re_drop_2 (ce1 := Lay K ad (stM S (200 + 8 * i + k) 1 0)) (put_Re1 hi hk ho) ?_
  refine z_aload_n hx 0 d_Re_drop_5 rfl ?_
  refine z_iconst (v := 0) hx d_Re_drop_6 rfl ?_
  refine z_put hx k_Re (t := 200 + 8 * i + k) (Lay_Re hi hk (ho_n (by omega) ho)) 2 (by decide) a2_75 rfl rfl rfl (Nat.le_of_ble_eq_true rfl) d_Re_drop_7 (ce1 := Lay K ad (stM (stM S (200 + 8 * i + k) 1 0) (200 + 8 * i + k) 2 0)) (put_Re2 hi hk (ho_n (by omega) ho)) ?_
  exact z_vret hx hr hq (Nat.le_refl _) (Nat.le_refl _) d_Re_drop_10 ⟨rfl, rfl, rfl⟩
end
section
set_option maxRecDepth 20000 in
theorem c_Sh_tally {l : Launch} {D : va_G} {K : Nat → ClassId} {ad : Nat → Nat} {S : zSt} {s w : Int32} : zC l TB D zcls (ztyl K) y_Sh_tally (.code y_Sh_tally b_Sh_tally 5 (some FieldType.int)) (rmk 0 0) [.ref (ad 4), .int s, .int w] ad (Lay K ad S) (zP K ad (some (.int (nI (cntI (fun q => decide (S.2.2 7 q = w ∧ S.2.2 5 q = s)) 1000)))) S) := by
  refine zC.of (by decide +kernel) (Nat.le_of_ble_eq_true rfl) ?_
  intro x hx hr hml hnm hrm hq hNH
  have loop : ∀ (m k : Nat), k + m = 1000 → zV x ad (Lay K ad S) 0 0 [(4, .int (nI k)), (3, .int (nI (cntI (fun q => decide (S.2.2 7 q = w ∧ S.2.2 5 q = s)) k))), (0, .ref (ad 4)), (1, .int s), (2, .int w)] 5 [] := by
    intro m
    induction m with
    | zero =>
      intro k he
      obtain rfl : k = 1000 := by omega
      refine z_iload hx 0 d_Sh_tally_5 rfl ?_
      refine z_sipush (v := 1000) hx d_Sh_tally_7 rfl ?_
      refine z_icmp_ge (tgt := 44) hx d_Sh_tally_10 (by decide) (fun _ => ?_) (fun h => absurd (by decide) h)
      refine z_iload_n hx 1 d_Sh_tally_44 rfl ?_
      exact z_iret hx hr rfl hq (Nat.le_refl _) (Nat.le_refl _) d_Sh_tally_45 ⟨rfl, rfl, rfl⟩
    | succ m ih =>
      intro k he
      have hk : k < 1000 := by omega
      refine z_iload hx 0 d_Sh_tally_5 rfl ?_
      refine z_sipush (v := 1000) hx d_Sh_tally_7 rfl ?_
      refine z_icmp_ge (tgt := 44) hx d_Sh_tally_10 (by decide) (fun h => absurd h (nI_nleL 1000 rfl hk (by decide))) (fun _ => ?_)
      refine z_aload_n hx 2 d_Sh_tally_13 rfl ?_
      refine z_get hx k_Sh (t := 4) rfl 2 (by decide) a1_77 rfl d_Sh_tally_14 ?_
      refine z_iload hx 0 d_Sh_tally_17 rfl ?_
      refine z_ialdK hx 0 rfl (t := 7) rfl (k := k) (by omega) (by first | decide | omega) d_Sh_tally_19 ?_
      refine z_iload_n hx 4 d_Sh_tally_20 rfl ?_
      refine z_icmp_ne (tgt := 38) hx d_Sh_tally_21 (by decide) (fun h1 => ?_) (fun h1 => ?_)
      · refine z_iinc (v := nI (k + 1)) hx 0 [(4, .int (nI (k + 1))), (3, .int (nI (cntI (fun q => decide (S.2.2 7 q = w ∧ S.2.2 5 q = s)) k))), (0, .ref (ad 4)), (1, .int s), (2, .int w)] d_Sh_tally_38 rfl (nI_1 k) (zN hml (by decide)) rfl ?_
        refine z_goto (tgt := 5) hx d_Sh_tally_41 (by decide) ?_
        have q9 := ih (k + 1) (by omega)
        rw [show cntI (fun q => decide (S.2.2 7 q = w ∧ S.2.2 5 q = s)) (k + 1) = cntI (fun q => decide (S.2.2 7 q = w ∧ S.2.2 5 q = s)) k from by simp [cntI, h1]] at q9
        exact z_lv [0, 1, 2, 3, 4] _ rfl q9
      · refine z_aload_n hx 2 d_Sh_tally_24 rfl ?_
        refine z_get hx k_Sh (t := 4) rfl 0 (by decide) a1_75 rfl d_Sh_tally_25 ?_
        refine z_iload hx 0 d_Sh_tally_28 rfl ?_
        refine z_ialdK hx 0 rfl (t := 5) rfl (k := k) (by omega) (by first | decide | omega) d_Sh_tally_30 ?_
        refine z_iload_n hx 3 d_Sh_tally_31 rfl ?_
        refine z_icmp_ne (tgt := 38) hx d_Sh_tally_32 (by decide) (fun h2 => ?_) (fun h2 => ?_)
        · refine z_iinc (v := nI (k + 1)) hx 0 [(4, .int (nI (k + 1))), (3, .int (nI (cntI (fun q => decide (S.2.2 7 q = w ∧ S.2.2 5 q = s)) k))), (0, .ref (ad 4)), (1, .int s), (2, .int w)] d_Sh_tally_38 rfl (nI_1 k) (zN hml (by decide)) rfl ?_
          refine z_goto (tgt := 5) hx d_Sh_tally_41 (by decide) ?_
          have q9 := ih (k + 1) (by omega)
          rw [show cntI (fun q => decide (S.2.2 7 q = w ∧ S.2.2 5 q = s)) (k + 1) = cntI (fun q => decide (S.2.2 7 q = w ∧ S.2.2 5 q = s)) k from by simp [cntI, h1, h2]] at q9
          exact z_lv [0, 1, 2, 3, 4] _ rfl q9
        · refine z_iinc (v := nI (cntI (fun q => decide (S.2.2 7 q = w ∧ S.2.2 5 q = s)) k + 1)) hx 1 [(3, .int (nI (cntI (fun q => decide (S.2.2 7 q = w ∧ S.2.2 5 q = s)) k + 1))), (4, .int (nI k)), (0, .ref (ad 4)), (1, .int s), (2, .int w)] d_Sh_tally_35 rfl (nI_1 _) (zN hml (by decide)) rfl ?_
          refine z_iinc (v := nI (k + 1)) hx 1 [(4, .int (nI (k + 1))), (3, .int (nI (cntI (fun q => decide (S.2.2 7 q = w ∧ S.2.2 5 q = s)) k + 1))), (0, .ref (ad 4)), (1, .int s), (2, .int w)] d_Sh_tally_38 rfl (nI_1 k) (zN hml (by decide)) rfl ?_
          refine z_goto (tgt := 5) hx d_Sh_tally_41 (by decide) ?_
          have q9 := ih (k + 1) (by omega)
          rw [show cntI (fun q => decide (S.2.2 7 q = w ∧ S.2.2 5 q = s)) (k + 1) = cntI (fun q => decide (S.2.2 7 q = w ∧ S.2.2 5 q = s)) k + 1 from by simp [cntI, h1, h2]] at q9
          exact z_lv [0, 1, 2, 3, 4] _ rfl q9
  show zV x ad (Lay K ad S) 0 0 [(0, .ref (ad 4)), (1, .int s), (2, .int w)] 0 []
  refine z_iconst (v := 0) hx d_Sh_tally_0 rfl ?_
  refine z_top (b := nI (cntI (fun q => decide (S.2.2 7 q = w ∧ S.2.2 5 q = s)) 0)) rfl ?_
  refine z_istore_n hx [(3, .int (nI (cntI (fun q => decide (S.2.2 7 q = w ∧ S.2.2 5 q = s)) 0))), (0, .ref (ad 4)), (1, .int s), (2, .int w)] d_Sh_tally_1 rfl (zN hml (by decide)) rfl ?_
  refine z_iconst (v := 0) hx d_Sh_tally_2 rfl ?_
  refine z_top (b := nI 0) rfl ?_
  refine z_istore hx [(4, .int (nI 0)), (3, .int (nI (cntI (fun q => decide (S.2.2 7 q = w ∧ S.2.2 5 q = s)) 0))), (0, .ref (ad 4)), (1, .int s), (2, .int w)] d_Sh_tally_3 (zN hml (by decide)) rfl ?_
  exact z_lv [0, 1, 2, 3, 4] _ rfl (loop 1000 0 (by omega))
set_option maxRecDepth 20000 in
theorem c_Sh_tallyFree {l : Launch} {D : va_G} {K : Nat → ClassId} {ad : Nat → Nat} {S : zSt} {s r : Int32} : zC l TB D zcls (ztyl K) y_Sh_tallyFree (.code y_Sh_tallyFree b_Sh_tallyFree 5 (some FieldType.int)) (rmk 2 43) [.ref (ad 4), .int s, .int r] ad (Lay K ad S) (zP K ad (some (.int (nI (cntI (fun q => decide (S.2.2 7 q = 1 ∧ S.2.2 5 q = s ∧ S.2.2 6 q = r)) 1000)))) S) := by
  refine zC.of (by decide +kernel) (Nat.le_of_ble_eq_true rfl) ?_
  intro x hx hr hml hnm hrm hq hNH
  have loop : ∀ (m k : Nat), k + m = 1000 → zV x ad (Lay K ad S) 0 0 [(4, .int (nI k)), (3, .int (nI (cntI (fun q => decide (S.2.2 7 q = 1 ∧ S.2.2 5 q = s ∧ S.2.2 6 q = r)) k))), (0, .ref (ad 4)), (1, .int s), (2, .int r)] 5 [] := by
    intro m
    induction m with
    | zero =>
      intro k he
      obtain rfl : k = 1000 := by omega
      refine z_iload hx 0 d_Sh_tallyFree_5 rfl ?_
      refine z_sipush (v := 1000) hx d_Sh_tallyFree_7 rfl ?_
      refine z_icmp_ge (tgt := 33) hx d_Sh_tallyFree_10 (by decide) (fun _ => ?_) (fun h => absurd (by decide) h)
      refine z_iload_n hx 1 d_Sh_tallyFree_33 rfl ?_
      exact z_iret hx hr rfl hq (Nat.le_refl _) (Nat.le_refl _) d_Sh_tallyFree_34 ⟨rfl, rfl, rfl⟩
    | succ m ih =>
      intro k he
      have hk : k < 1000 := by omega
      refine z_iload hx 0 d_Sh_tallyFree_5 rfl ?_
      refine z_sipush (v := 1000) hx d_Sh_tallyFree_7 rfl ?_
      refine z_icmp_ge (tgt := 33) hx d_Sh_tallyFree_10 (by decide) (fun h => absurd h (nI_nleL 1000 rfl hk (by decide))) (fun _ => ?_)
      refine z_aload_n hx 2 d_Sh_tallyFree_13 rfl ?_
      refine z_iload hx 0 d_Sh_tallyFree_14 rfl ?_
      refine z_iload_n hx 3 d_Sh_tallyFree_16 rfl ?_
      refine z_iload_n hx 4 d_Sh_tallyFree_17 rfl ?_
      refine z_cV hx (c_Sh_isFree (s := s) (r := r) hk) k_Sh rfl ⟨a2_142, a2_145, a1_4, ⟨by decide +kernel, by decide +kernel⟩, fun sig h => by cases h; rfl⟩ a2_144 s_Sh_isFree rfl rfl d_Sh_tallyFree_18 (by rw [hrm]; exact ⟨Nat.le_of_ble_eq_true rfl, Nat.le_of_ble_eq_true rfl, Nat.le_of_ble_eq_true rfl, Nat.le_of_ble_eq_true rfl⟩) ?_
      show zV x ad (Lay K ad S) _ _ _ 21 [.int (if S.2.2 7 k = 1 ∧ S.2.2 5 k = s ∧ S.2.2 6 k = r then 1 else 0)]
      refine z_if_eq (tgt := 27) hx d_Sh_tallyFree_21 (by decide) (fun h1 => ?_) (fun h1 => ?_)
      · refine z_iinc (v := nI (k + 1)) hx 0 [(4, .int (nI (k + 1))), (3, .int (nI (cntI (fun q => decide (S.2.2 7 q = 1 ∧ S.2.2 5 q = s ∧ S.2.2 6 q = r)) k))), (0, .ref (ad 4)), (1, .int s), (2, .int r)] d_Sh_tallyFree_27 rfl (nI_1 k) (zN hml (by decide)) rfl ?_
        refine z_goto (tgt := 5) hx d_Sh_tallyFree_30 (by decide) ?_
        have q9 := ih (k + 1) (by omega)
        rw [show cntI (fun q => decide (S.2.2 7 q = 1 ∧ S.2.2 5 q = s ∧ S.2.2 6 q = r)) (k + 1) = cntI (fun q => decide (S.2.2 7 q = 1 ∧ S.2.2 5 q = s ∧ S.2.2 6 q = r)) k from by simp [cntI, z00 h1]] at q9
        exact z_lv [0, 1, 2, 3, 4] _ rfl q9
      · refine z_iinc (v := nI (cntI (fun q => decide (S.2.2 7 q = 1 ∧ S.2.2 5 q = s ∧ S.2.2 6 q = r)) k + 1)) hx 1 [(3, .int (nI (cntI (fun q => decide (S.2.2 7 q = 1 ∧ S.2.2 5 q = s ∧ S.2.2 6 q = r)) k + 1))), (4, .int (nI k)), (0, .ref (ad 4)), (1, .int s), (2, .int r)] d_Sh_tallyFree_24 rfl (nI_1 _) (zN hml (by decide)) rfl ?_
        refine z_iinc (v := nI (k + 1)) hx 1 [(4, .int (nI (k + 1))), (3, .int (nI (cntI (fun q => decide (S.2.2 7 q = 1 ∧ S.2.2 5 q = s ∧ S.2.2 6 q = r)) k + 1))), (0, .ref (ad 4)), (1, .int s), (2, .int r)] d_Sh_tallyFree_27 rfl (nI_1 k) (zN hml (by decide)) rfl ?_
        refine z_goto (tgt := 5) hx d_Sh_tallyFree_30 (by decide) ?_
        have q9 := ih (k + 1) (by omega)
        rw [show cntI (fun q => decide (S.2.2 7 q = 1 ∧ S.2.2 5 q = s ∧ S.2.2 6 q = r)) (k + 1) = cntI (fun q => decide (S.2.2 7 q = 1 ∧ S.2.2 5 q = s ∧ S.2.2 6 q = r)) k + 1 from by simp [cntI, z01 h1]] at q9
        exact z_lv [0, 1, 2, 3, 4] _ rfl q9
  show zV x ad (Lay K ad S) 0 0 [(0, .ref (ad 4)), (1, .int s), (2, .int r)] 0 []
  refine z_iconst (v := 0) hx d_Sh_tallyFree_0 rfl ?_
  refine z_top (b := nI (cntI (fun q => decide (S.2.2 7 q = 1 ∧ S.2.2 5 q = s ∧ S.2.2 6 q = r)) 0)) rfl ?_
  refine z_istore_n hx [(3, .int (nI (cntI (fun q => decide (S.2.2 7 q = 1 ∧ S.2.2 5 q = s ∧ S.2.2 6 q = r)) 0))), (0, .ref (ad 4)), (1, .int s), (2, .int r)] d_Sh_tallyFree_1 rfl (zN hml (by decide)) rfl ?_
  refine z_iconst (v := 0) hx d_Sh_tallyFree_2 rfl ?_
  refine z_top (b := nI 0) rfl ?_
  refine z_istore hx [(4, .int (nI 0)), (3, .int (nI (cntI (fun q => decide (S.2.2 7 q = 1 ∧ S.2.2 5 q = s ∧ S.2.2 6 q = r)) 0))), (0, .ref (ad 4)), (1, .int s), (2, .int r)] d_Sh_tallyFree_3 (zN hml (by decide)) rfl ?_
  exact z_lv [0, 1, 2, 3, 4] _ rfl (loop 1000 0 (by omega))
set_option maxRecDepth 20000 in
theorem c_Sh_leastFree {l : Launch} {D : va_G} {K : Nat → ClassId} {ad : Nat → Nat} {S : zSt} {s r : Int32} {f : Nat} (hf : f ≤ 1000) : zC l TB D zcls (ztyl K) y_Sh_leastFree (.code y_Sh_leastFree b_Sh_leastFree 5 (some FieldType.int)) (rmk 2 43) [.ref (ad 4), .int s, .int r, .int (nI f)] ad (Lay K ad S) (zP K ad (some (.int (lstF (fun q => decide (S.2.2 7 q = 1 ∧ S.2.2 5 q = s ∧ S.2.2 6 q = r)) (1000 - f) f))) S) := by
  refine zC.of (by decide +kernel) (Nat.le_of_ble_eq_true rfl) ?_
  intro x hx hr hml hnm hrm hq hNH
  have loop : ∀ (m k : Nat), k + m = 1000 → lstF (fun q => decide (S.2.2 7 q = 1 ∧ S.2.2 5 q = s ∧ S.2.2 6 q = r)) m k = lstF (fun q => decide (S.2.2 7 q = 1 ∧ S.2.2 5 q = s ∧ S.2.2 6 q = r)) (1000 - f) f → zV x ad (Lay K ad S) 0 0 [(4, .int (nI k)), (0, .ref (ad 4)), (1, .int s), (2, .int r)] 7 [] := by
    intro m
    induction m with
    | zero =>
      intro k he hV
      have he0 : k = 1000 := by omega
      refine z_iload hx 0 d_Sh_leastFree_7 rfl ?_
      refine z_sipush (v := 1000) hx d_Sh_leastFree_9 rfl ?_
      refine z_icmp_ge (tgt := 35) hx d_Sh_leastFree_12 (by decide) (fun _ => ?_) (fun h => absurd (nI_leL 1000 rfl he0 (by decide)) h)
      refine z_iconst (v := (-1)) hx d_Sh_leastFree_35 rfl ?_
      exact z_iret hx hr rfl hq (Nat.le_refl _) (Nat.le_refl _) d_Sh_leastFree_36 ⟨by rw [← hV]; rfl, rfl, rfl⟩
    | succ m ih =>
      intro k he hV
      have hk : k < 1000 := by omega
      refine z_iload hx 0 d_Sh_leastFree_7 rfl ?_
      refine z_sipush (v := 1000) hx d_Sh_leastFree_9 rfl ?_
      refine z_icmp_ge (tgt := 35) hx d_Sh_leastFree_12 (by decide) (fun h => absurd h (nI_nleL 1000 rfl hk (by decide))) (fun _ => ?_)
      refine z_aload_n hx 1 d_Sh_leastFree_15 rfl ?_
      refine z_iload hx 0 d_Sh_leastFree_16 rfl ?_
      refine z_iload_n hx 2 d_Sh_leastFree_18 rfl ?_
      refine z_iload_n hx 3 d_Sh_leastFree_19 rfl ?_
      refine z_cV hx (c_Sh_isFree (s := s) (r := r) hk) k_Sh rfl ⟨a2_142, a2_145, a1_4, ⟨by decide +kernel, by decide +kernel⟩, fun sig h => by cases h; rfl⟩ a2_144 s_Sh_isFree rfl rfl d_Sh_leastFree_20 (by rw [hrm]; exact ⟨Nat.le_of_ble_eq_true rfl, Nat.le_of_ble_eq_true rfl, Nat.le_of_ble_eq_true rfl, Nat.le_of_ble_eq_true rfl⟩) ?_
      show zV x ad (Lay K ad S) _ _ _ 23 [.int (if S.2.2 7 k = 1 ∧ S.2.2 5 k = s ∧ S.2.2 6 k = r then 1 else 0)]
      refine z_if_eq (tgt := 29) hx d_Sh_leastFree_23 (by decide) (fun h1 => ?_) (fun h1 => ?_)
      · refine z_iinc (v := nI (k + 1)) hx 0 [(4, .int (nI (k + 1))), (0, .ref (ad 4)), (1, .int s), (2, .int r)] d_Sh_leastFree_29 rfl (nI_1 k) (zN hml (by decide)) rfl ?_
        refine z_goto (tgt := 7) hx d_Sh_leastFree_32 (by decide) ?_
        exact z_lv [0, 1, 2, 3] _ rfl (ih (k + 1) (by omega) (by rw [← hV, lstF, if_neg (by simpa using z00 h1)]))
      · refine z_iload hx 0 d_Sh_leastFree_26 rfl ?_
        exact z_iret hx hr rfl hq (Nat.le_refl _) (Nat.le_refl _) d_Sh_leastFree_28 ⟨by rw [← hV]; rw [lstF, if_pos (by simpa using z01 h1)], rfl, rfl⟩
  show zV x ad (Lay K ad S) 0 0 [(0, .ref (ad 4)), (1, .int s), (2, .int r), (3, .int (nI f))] 0 []
  refine z_iload_n hx 3 d_Sh_leastFree_0 rfl ?_
  refine z_iconst (v := 0) hx d_Sh_leastFree_1 rfl ?_
  refine z_mmax hx a2_232 a2_184 a1_15 a2_185 (by rw [hrm]; exact ⟨Nat.le_of_ble_eq_true rfl, Nat.le_of_ble_eq_true rfl, Nat.le_of_ble_eq_true rfl, Nat.le_of_ble_eq_true rfl⟩) d_Sh_leastFree_2 ?_
  refine z_top (b := nI f) (if_neg (nI_pos (by omega))) ?_
  refine z_istore hx [(4, .int (nI f)), (0, .ref (ad 4)), (1, .int s), (2, .int r), (3, .int (nI f))] d_Sh_leastFree_5 (zN hml (by decide)) rfl ?_
  exact z_lv [0, 1, 2, 3] _ rfl (loop (1000 - f) f (by omega) rfl)
set_option maxRecDepth 20000 in
theorem c_Sh_hasAny {l : Launch} {D : va_G} {K : Nat → ClassId} {ad : Nat → Nat} {S : zSt} {f n : Nat} (hf : f + n ≤ 1000) : zC l TB D zcls (ztyl K) y_Sh_hasAny (.code y_Sh_hasAny b_Sh_hasAny 4 (some FieldType.boolean)) (rmk 1 20) [.ref (ad 4), .int (nI f), .int (nI n)] ad (Lay K ad S) (zP K ad (some (.int (hasF (fun q => decide (S.2.2 7 (f + q) ≠ 0)) n 0))) S) := by
  refine zC.of (by decide +kernel) (Nat.le_of_ble_eq_true rfl) ?_
  intro x hx hr hml hnm hrm hq hNH
  have loop : ∀ (m k : Nat), k + m = n → hasF (fun q => decide (S.2.2 7 (f + q) ≠ 0)) m k = hasF (fun q => decide (S.2.2 7 (f + q) ≠ 0)) n 0 → zV x ad (Lay K ad S) 0 0 [(3, .int (nI k)), (0, .ref (ad 4)), (1, .int (nI f)), (2, .int (nI n))] 2 [] := by
    intro m
    induction m with
    | zero =>
      intro k he hV
      have he0 : k = n := by omega
      refine z_iload_n hx 0 d_Sh_hasAny_2 rfl ?_
      refine z_iload_n hx 3 d_Sh_hasAny_3 rfl ?_
      refine z_icmp_ge (tgt := 35) hx d_Sh_hasAny_4 (by decide) (fun _ => ?_) (fun h => absurd (nI_le (Nat.le_of_eq he0.symm) (by omega)) h)
      refine z_iconst (v := 0) hx d_Sh_hasAny_35 rfl ?_
      exact z_iret hx hr rfl hq (Nat.le_refl _) (Nat.le_refl _) d_Sh_hasAny_36 ⟨by rw [← hV]; rfl, rfl, rfl⟩
    | succ m ih =>
      intro k he hV
      have hk : k < n := by omega
      refine z_iload_n hx 0 d_Sh_hasAny_2 rfl ?_
      refine z_iload_n hx 3 d_Sh_hasAny_3 rfl ?_
      refine z_icmp_ge (tgt := 35) hx d_Sh_hasAny_4 (by decide) (fun h => absurd h (nI_ge hk (by omega))) (fun _ => ?_)
      refine z_iload_n hx 2 d_Sh_hasAny_7 rfl ?_
      refine z_iload_n hx 0 d_Sh_hasAny_8 rfl ?_
      refine z_iadd hx d_Sh_hasAny_9 ?_
      refine z_top (b := nI (f + k)) (nI_add f k) ?_
      refine z_cS hx (c_Sh_isKit (k := f + k) (by omega)) ⟨a2_131, a2_133, a1_4, ⟨by decide +kernel, by decide +kernel⟩, fun sig h => by cases h; rfl⟩ a2_132 rfl rfl d_Sh_hasAny_10 (by rw [hrm]; exact ⟨Nat.le_of_ble_eq_true rfl, Nat.le_of_ble_eq_true rfl, Nat.le_of_ble_eq_true rfl, Nat.le_of_ble_eq_true rfl⟩) ?_
      show zV x ad (Lay K ad S) _ _ _ 13 [.int 1]
      refine z_if_eq (tgt := 29) hx d_Sh_hasAny_13 (by decide) (fun h => absurd h (by decide)) (fun _ => ?_)
      refine z_aload_n hx 1 d_Sh_hasAny_16 rfl ?_
      refine z_get hx k_Sh (t := 4) rfl 2 (by decide) a1_77 rfl d_Sh_hasAny_17 ?_
      refine z_iload_n hx 2 d_Sh_hasAny_20 rfl ?_
      refine z_iload_n hx 0 d_Sh_hasAny_21 rfl ?_
      refine z_iadd hx d_Sh_hasAny_22 ?_
      refine z_top (b := nI (f + k)) (nI_add f k) ?_
      refine z_ialdK hx 0 rfl (t := 7) rfl (k := (f + k)) (by omega) (by first | decide | omega) d_Sh_hasAny_23 ?_
      refine z_if_eq (tgt := 29) hx d_Sh_hasAny_24 (by decide) (fun h1 => ?_) (fun h1 => ?_)
      · refine z_iinc (v := nI (k + 1)) hx 0 [(3, .int (nI (k + 1))), (0, .ref (ad 4)), (1, .int (nI f)), (2, .int (nI n))] d_Sh_hasAny_29 rfl (nI_1 k) (zN hml (by decide)) rfl ?_
        refine z_goto (tgt := 2) hx d_Sh_hasAny_32 (by decide) ?_
        exact z_lv [0, 1, 2, 3] _ rfl (ih (k + 1) (by omega) (by rw [← hV, hasF, if_neg (by simpa using h1)]))
      · refine z_iconst (v := 1) hx d_Sh_hasAny_27 rfl ?_
        exact z_iret hx hr rfl hq (Nat.le_refl _) (Nat.le_refl _) d_Sh_hasAny_28 ⟨by rw [← hV]; rw [hasF, if_pos (by simpa using h1)], rfl, rfl⟩
  show zV x ad (Lay K ad S) 0 0 [(0, .ref (ad 4)), (1, .int (nI f)), (2, .int (nI n))] 0 []
  refine z_iconst (v := 0) hx d_Sh_hasAny_0 rfl ?_
  refine z_top (b := nI 0) rfl ?_
  refine z_istore_n hx [(3, .int (nI 0)), (0, .ref (ad 4)), (1, .int (nI f)), (2, .int (nI n))] d_Sh_hasAny_1 rfl (zN hml (by decide)) rfl ?_
  exact z_lv [0, 1, 2, 3] _ rfl (loop n 0 (by omega) rfl)
set_option maxRecDepth 20000 in
theorem c_Sh_put {l : Launch} {D : va_G} {K : Nat → ClassId} {ad : Nat → Nat} {S : zSt} {s r : Int32} {f n : Nat} (hf : f + n ≤ 1000) : zC l TB D zcls (ztyl K) y_Sh_put (.code y_Sh_put b_Sh_put 6 (none : Option FieldType)) (rmk 1 20) [.ref (ad 4), .int s, .int r, .int (nI f), .int (nI n)] ad (Lay K ad S) (zP K ad none (putF S s r f n)) := by
  refine zC.of (by decide +kernel) (Nat.le_of_ble_eq_true rfl) ?_
  intro x hx hr hml hnm hrm hq hNH
  have loop : ∀ (m k : Nat), k + m = n → zV x ad (Lay K ad (putF S s r f k)) 0 0 [(5, .int (nI k)), (0, .ref (ad 4)), (1, .int s), (2, .int r), (3, .int (nI f)), (4, .int (nI n))] 3 [] := by
    intro m
    induction m with
    | zero =>
      intro k he
      have he0 : k = n := by omega
      refine z_iload hx 0 d_Sh_put_3 rfl ?_
      refine z_iload hx 5 d_Sh_put_5 rfl ?_
      refine z_icmp_ge (tgt := 56) hx d_Sh_put_7 (by decide) (fun _ => ?_) (fun h => absurd (nI_le (Nat.le_of_eq he0.symm) (by omega)) h)
      subst he0
      exact z_vret hx hr hq (Nat.le_refl _) (Nat.le_refl _) d_Sh_put_56 ⟨rfl, rfl, rfl⟩
    | succ m ih =>
      intro k he
      have hk : k < n := by omega
      refine z_iload hx 0 d_Sh_put_3 rfl ?_
      refine z_iload hx 5 d_Sh_put_5 rfl ?_
      refine z_icmp_ge (tgt := 56) hx d_Sh_put_7 (by decide) (fun h => absurd h (nI_ge hk (by omega))) (fun _ => ?_)
      refine z_iload_n hx 4 d_Sh_put_10 rfl ?_
      refine z_iload hx 0 d_Sh_put_11 rfl ?_
      refine z_iadd hx d_Sh_put_13 ?_
      refine z_top (b := nI (f + k)) (nI_add f k) ?_
      refine z_cS hx (c_Sh_isKit (k := f + k) (by omega)) ⟨a2_131, a2_133, a1_4, ⟨by decide +kernel, by decide +kernel⟩, fun sig h => by cases h; rfl⟩ a2_132 rfl rfl d_Sh_put_14 (by rw [hrm]; exact ⟨Nat.le_of_ble_eq_true rfl, Nat.le_of_ble_eq_true rfl, Nat.le_of_ble_eq_true rfl, Nat.le_of_ble_eq_true rfl⟩) ?_
      show zV x ad (Lay K ad (putF S s r f k)) _ _ _ 17 [.int 1]
      refine z_if_eq (tgt := 50) hx d_Sh_put_17 (by decide) (fun h => absurd h (by decide)) (fun _ => ?_)
      refine z_aload_n hx 1 d_Sh_put_20 rfl ?_
      refine z_get hx k_Sh (t := 4) rfl 0 (by decide) a1_75 rfl d_Sh_put_21 ?_
      refine z_iload_n hx 4 d_Sh_put_24 rfl ?_
      refine z_iload hx 0 d_Sh_put_25 rfl ?_
      refine z_iadd hx d_Sh_put_27 ?_
      refine z_top (b := nI (f + k)) (nI_add f k) ?_
      refine z_iload_n hx 2 d_Sh_put_28 rfl ?_
      refine z_iastK hx 0 rfl (t := 5) rfl (k := (f + k)) (by omega) (by first | decide | omega)  d_Sh_put_29 (ce1 := Lay K ad (stM (putF S s r f k) 5 ((f + k)) s)) (Lay_put (by decide) rfl) ?_
      refine z_aload_n hx 1 d_Sh_put_30 rfl ?_
      refine z_get hx k_Sh (t := 4) rfl 1 (by decide) a1_76 rfl d_Sh_put_31 ?_
      refine z_iload_n hx 4 d_Sh_put_34 rfl ?_
      refine z_iload hx 0 d_Sh_put_35 rfl ?_
      refine z_iadd hx d_Sh_put_37 ?_
      refine z_top (b := nI (f + k)) (nI_add f k) ?_
      refine z_iload_n hx 3 d_Sh_put_38 rfl ?_
      refine z_iastK hx 0 rfl (t := 6) rfl (k := (f + k)) (by omega) (by first | decide | omega)  d_Sh_put_39 (ce1 := Lay K ad (stM (stM (putF S s r f k) 5 ((f + k)) s) 6 ((f + k)) r)) (Lay_put (by decide) rfl) ?_
      refine z_aload_n hx 1 d_Sh_put_40 rfl ?_
      refine z_get hx k_Sh (t := 4) rfl 2 (by decide) a1_77 rfl d_Sh_put_41 ?_
      refine z_iload_n hx 4 d_Sh_put_44 rfl ?_
      refine z_iload hx 0 d_Sh_put_45 rfl ?_
      refine z_iadd hx d_Sh_put_47 ?_
      refine z_top (b := nI (f + k)) (nI_add f k) ?_
      refine z_iconst (v := 1) hx d_Sh_put_48 rfl ?_
      refine z_iastK hx 0 rfl (t := 7) rfl (k := (f + k)) (by omega) (by first | decide | omega)  d_Sh_put_49 (ce1 := Lay K ad (stM (stM (stM (putF S s r f k) 5 ((f + k)) s) 6 ((f + k)) r) 7 ((f + k)) 1)) (Lay_put (by decide) rfl) ?_
      refine z_iinc (v := nI (k + 1)) hx 0 [(5, .int (nI (k + 1))), (0, .ref (ad 4)), (1, .int s), (2, .int r), (3, .int (nI f)), (4, .int (nI n))] d_Sh_put_50 rfl (nI_1 k) (zN hml (by decide)) rfl ?_
      refine z_goto (tgt := 3) hx d_Sh_put_53 (by decide) ?_
      exact z_lv [0, 1, 2, 3, 4, 5] _ rfl (ih (k + 1) (by omega))
  show zV x ad (Lay K ad S) 0 0 [(0, .ref (ad 4)), (1, .int s), (2, .int r), (3, .int (nI f)), (4, .int (nI n))] 0 []
  refine z_iconst (v := 0) hx d_Sh_put_0 rfl ?_
  refine z_top (b := nI 0) rfl ?_
  refine z_istore hx [(5, .int (nI 0)), (0, .ref (ad 4)), (1, .int s), (2, .int r), (3, .int (nI f)), (4, .int (nI n))] d_Sh_put_1 (zN hml (by decide)) rfl ?_
  exact z_lv [0, 1, 2, 3, 4, 5] _ rfl (loop n 0 (by omega))
set_option maxRecDepth 20000 in
theorem c_Sh_markAll {l : Launch} {D : va_G} {K : Nat → ClassId} {ad : Nat → Nat} {S : zSt} {g : Nat → Nat} {n : Nat} (hn : n ≤ 24) (hg : ∀ q, q < n → S.2.2 11 q = nI (g q) ∧ g q < 1000) : zC l TB D zcls (ztyl K) y_Sh_markAll (.code y_Sh_markAll b_Sh_markAll 4 (none : Option FieldType)) (rmk 1 20) [.ref (ad 4), .ref (ad 11), .int (nI n)] ad (Lay K ad S) (zP K ad none (markF S g n)) := by
  refine zC.of (by decide +kernel) (Nat.le_of_ble_eq_true rfl) ?_
  intro x hx hr hml hnm hrm hq hNH
  have loop : ∀ (m k : Nat), k + m = n → zV x ad (Lay K ad (markF S g k)) 0 0 [(3, .int (nI k)), (0, .ref (ad 4)), (1, .ref (ad 11)), (2, .int (nI n))] 2 [] := by
    intro m
    induction m with
    | zero =>
      intro k he
      have he0 : k = n := by omega
      refine z_iload_n hx 0 d_Sh_markAll_2 rfl ?_
      refine z_iload_n hx 3 d_Sh_markAll_3 rfl ?_
      refine z_icmp_ge (tgt := 37) hx d_Sh_markAll_4 (by decide) (fun _ => ?_) (fun h => absurd (nI_le (Nat.le_of_eq he0.symm) (by omega)) h)
      subst he0
      exact z_vret hx hr hq (Nat.le_refl _) (Nat.le_refl _) d_Sh_markAll_37 ⟨rfl, rfl, rfl⟩
    | succ m ih =>
      intro k he
      have hk : k < n := by omega
      refine z_iload_n hx 0 d_Sh_markAll_2 rfl ?_
      refine z_iload_n hx 3 d_Sh_markAll_3 rfl ?_
      refine z_icmp_ge (tgt := 37) hx d_Sh_markAll_4 (by decide) (fun h => absurd h (nI_ge hk (by omega))) (fun _ => ?_)
      refine z_iload_n hx 0 d_Sh_markAll_7 rfl ?_
      refine z_aload_n hx 2 d_Sh_markAll_8 rfl ?_
      refine z_alen hx 0 rfl (t := 11) rfl (v := 24) rfl d_Sh_markAll_9 ?_
      refine z_icmp_ge (tgt := 37) hx d_Sh_markAll_10 (by decide) (fun h => absurd h (nI_nleL 24 rfl (by omega) (by decide))) (fun _ => ?_)
      refine z_aload_n hx 2 d_Sh_markAll_13 rfl ?_
      refine z_iload_n hx 0 d_Sh_markAll_14 rfl ?_
      refine z_ialdK hx 0 rfl (t := 11) rfl (k := k) (by omega) (by first | decide | omega) d_Sh_markAll_15 ?_
      refine z_top (b := nI (g k)) (by rw [markF_11]; exact (hg k hk).1) ?_
      refine z_cS hx (c_Sh_isKit (k := g k) (hg k hk).2) ⟨a2_131, a2_133, a1_4, ⟨by decide +kernel, by decide +kernel⟩, fun sig h => by cases h; rfl⟩ a2_132 rfl rfl d_Sh_markAll_16 (by rw [hrm]; exact ⟨Nat.le_of_ble_eq_true rfl, Nat.le_of_ble_eq_true rfl, Nat.le_of_ble_eq_true rfl, Nat.le_of_ble_eq_true rfl⟩) ?_
      show zV x ad (Lay K ad (markF S g k)) _ _ _ 19 [.int 1]
      refine z_if_eq (tgt := 31) hx d_Sh_markAll_19 (by decide) (fun h => absurd h (by decide)) (fun _ => ?_)
      refine z_aload_n hx 1 d_Sh_markAll_22 rfl ?_
      refine z_get hx k_Sh (t := 4) rfl 2 (by decide) a1_77 rfl d_Sh_markAll_23 ?_
      refine z_aload_n hx 2 d_Sh_markAll_26 rfl ?_
      refine z_iload_n hx 0 d_Sh_markAll_27 rfl ?_
      refine z_ialdK hx 0 rfl (t := 11) rfl (k := k) (by omega) (by first | decide | omega) d_Sh_markAll_28 ?_
      refine z_top (b := nI (g k)) (by rw [markF_11]; exact (hg k hk).1) ?_
      refine z_iconst (v := 2) hx d_Sh_markAll_29 rfl ?_
      refine z_iastK hx 0 rfl (t := 7) rfl (k := (g k)) (hg k hk).2 (by first | decide | omega)  d_Sh_markAll_30 (ce1 := Lay K ad (stM (markF S g k) 7 ((g k)) 2)) (Lay_put (by decide) rfl) ?_
      refine z_iinc (v := nI (k + 1)) hx 0 [(3, .int (nI (k + 1))), (0, .ref (ad 4)), (1, .ref (ad 11)), (2, .int (nI n))] d_Sh_markAll_31 rfl (nI_1 k) (zN hml (by decide)) rfl ?_
      refine z_goto (tgt := 2) hx d_Sh_markAll_34 (by decide) ?_
      exact z_lv [0, 1, 2, 3] _ rfl (ih (k + 1) (by omega))
  show zV x ad (Lay K ad S) 0 0 [(0, .ref (ad 4)), (1, .ref (ad 11)), (2, .int (nI n))] 0 []
  refine z_iconst (v := 0) hx d_Sh_markAll_0 rfl ?_
  refine z_top (b := nI 0) rfl ?_
  refine z_istore_n hx [(3, .int (nI 0)), (0, .ref (ad 4)), (1, .ref (ad 11)), (2, .int (nI n))] d_Sh_markAll_1 rfl (zN hml (by decide)) rfl ?_
  exact z_lv [0, 1, 2, 3] _ rfl (loop n 0 (by omega))
set_option maxRecDepth 20000 in
theorem c_Sh_freeMarked {l : Launch} {D : va_G} {K : Nat → ClassId} {ad : Nat → Nat} {S : zSt} {s : Int32} : zC l TB D zcls (ztyl K) y_Sh_freeMarked (.code y_Sh_freeMarked b_Sh_freeMarked 3 (none : Option FieldType)) (rmk 0 0) [.ref (ad 4), .int s] ad (Lay K ad S) (zP K ad none (frmF S s 1000)) := by
  refine zC.of (by decide +kernel) (Nat.le_of_ble_eq_true rfl) ?_
  intro x hx hr hml hnm hrm hq hNH
  have loop : ∀ (m k : Nat), k + m = 1000 → zV x ad (Lay K ad (frmF S s k)) 0 0 [(2, .int (nI k)), (0, .ref (ad 4)), (1, .int s)] 2 [] := by
    intro m
    induction m with
    | zero =>
      intro k he
      obtain rfl : k = 1000 := by omega
      refine z_iload_n hx 0 d_Sh_freeMarked_2 rfl ?_
      refine z_sipush (v := 1000) hx d_Sh_freeMarked_3 rfl ?_
      refine z_icmp_ge (tgt := 42) hx d_Sh_freeMarked_6 (by decide) (fun _ => ?_) (fun h => absurd (by decide) h)
      exact z_vret hx hr hq (Nat.le_refl _) (Nat.le_refl _) d_Sh_freeMarked_42 ⟨rfl, rfl, rfl⟩
    | succ m ih =>
      intro k he
      have hk : k < 1000 := by omega
      refine z_iload_n hx 0 d_Sh_freeMarked_2 rfl ?_
      refine z_sipush (v := 1000) hx d_Sh_freeMarked_3 rfl ?_
      refine z_icmp_ge (tgt := 42) hx d_Sh_freeMarked_6 (by decide) (fun h => absurd h (nI_nleL 1000 rfl hk (by decide))) (fun _ => ?_)
      refine z_aload_n hx 1 d_Sh_freeMarked_9 rfl ?_
      refine z_get hx k_Sh (t := 4) rfl 2 (by decide) a1_77 rfl d_Sh_freeMarked_10 ?_
      refine z_iload_n hx 0 d_Sh_freeMarked_13 rfl ?_
      refine z_ialdK hx 0 rfl (t := 7) rfl (k := k) (by omega) (by first | decide | omega) d_Sh_freeMarked_14 ?_
      refine z_iconst (v := 2) hx d_Sh_freeMarked_15 rfl ?_
      refine z_icmp_ne (tgt := 36) hx d_Sh_freeMarked_16 (by decide) (fun h1 => ?_) (fun h1 => ?_)
      · refine z_iinc (v := nI (k + 1)) hx 0 [(2, .int (nI (k + 1))), (0, .ref (ad 4)), (1, .int s)] d_Sh_freeMarked_36 rfl (nI_1 k) (zN hml (by decide)) rfl ?_
        refine z_goto (tgt := 2) hx d_Sh_freeMarked_39 (by decide) ?_
        have q9 := ih (k + 1) (by omega)
        rw [show frmF S s (k + 1) = frmF S s k from by rw [frmF, if_neg (fun z => h1 z.1)]] at q9
        exact z_lv [0, 1, 2] _ rfl q9
      · refine z_aload_n hx 1 d_Sh_freeMarked_19 rfl ?_
        refine z_get hx k_Sh (t := 4) rfl 0 (by decide) a1_75 rfl d_Sh_freeMarked_20 ?_
        refine z_iload_n hx 0 d_Sh_freeMarked_23 rfl ?_
        refine z_ialdK hx 0 rfl (t := 5) rfl (k := k) (by omega) (by first | decide | omega) d_Sh_freeMarked_24 ?_
        refine z_iload_n hx 2 d_Sh_freeMarked_25 rfl ?_
        refine z_icmp_ne (tgt := 36) hx d_Sh_freeMarked_26 (by decide) (fun h2 => ?_) (fun h2 => ?_)
        · refine z_iinc (v := nI (k + 1)) hx 0 [(2, .int (nI (k + 1))), (0, .ref (ad 4)), (1, .int s)] d_Sh_freeMarked_36 rfl (nI_1 k) (zN hml (by decide)) rfl ?_
          refine z_goto (tgt := 2) hx d_Sh_freeMarked_39 (by decide) ?_
          have q9 := ih (k + 1) (by omega)
          rw [show frmF S s (k + 1) = frmF S s k from by rw [frmF, if_neg (fun z => h2 z.2)]] at q9
          exact z_lv [0, 1, 2] _ rfl q9
        · refine z_aload_n hx 1 d_Sh_freeMarked_29 rfl ?_
          refine z_get hx k_Sh (t := 4) rfl 2 (by decide) a1_77 rfl d_Sh_freeMarked_30 ?_
          refine z_iload_n hx 0 d_Sh_freeMarked_33 rfl ?_
          refine z_iconst (v := 1) hx d_Sh_freeMarked_34 rfl ?_
          refine z_iastK hx 0 rfl (t := 7) rfl (k := k) (by omega) (by first | decide | omega)  d_Sh_freeMarked_35 (ce1 := Lay K ad (stM (frmF S s k) 7 k 1)) (Lay_put (by decide) rfl) ?_
          refine z_iinc (v := nI (k + 1)) hx 0 [(2, .int (nI (k + 1))), (0, .ref (ad 4)), (1, .int s)] d_Sh_freeMarked_36 rfl (nI_1 k) (zN hml (by decide)) rfl ?_
          refine z_goto (tgt := 2) hx d_Sh_freeMarked_39 (by decide) ?_
          have q9 := ih (k + 1) (by omega)
          rw [show frmF S s (k + 1) = stM (frmF S s k) 7 k 1 from by rw [frmF, if_pos ⟨h1, h2⟩]] at q9
          exact z_lv [0, 1, 2] _ rfl q9
  show zV x ad (Lay K ad S) 0 0 [(0, .ref (ad 4)), (1, .int s)] 0 []
  refine z_iconst (v := 0) hx d_Sh_freeMarked_0 rfl ?_
  refine z_top (b := nI 0) rfl ?_
  refine z_istore_n hx [(2, .int (nI 0)), (0, .ref (ad 4)), (1, .int s)] d_Sh_freeMarked_1 rfl (zN hml (by decide)) rfl ?_
  exact z_lv [0, 1, 2] _ rfl (loop 1000 0 (by omega))
set_option maxRecDepth 20000 in
theorem c_Re_fill {l : Launch} {D : va_G} {K : Nat → ClassId} {ad : Nat → Nat} {S : zSt} {i k : Nat} (hi : i < 10) (hk : k < 8) (ho : S.2.2 9 i ≠ 0) {n : Nat} (hn : n ≤ 24) : zC l TB D zcls (ztyl K) y_Re_fill (.code y_Re_fill b_Re_fill 4 (none : Option FieldType)) (rmk 0 0) [.ref (ad (200 + 8 * i + k)), .ref (ad 11), .int (nI n)] ad (Lay K ad S) (zP K ad none (stM (stM (fillF S (300 + 8 * i + k) n) (200 + 8 * i + k) 1 (nI n)) (200 + 8 * i + k) 2 0)) := by
  refine zC.of (by decide +kernel) (Nat.le_of_ble_eq_true rfl) ?_
  intro x hx hr hml hnm hrm hq hNH
  have loop : ∀ (m j : Nat), j + m = n → zV x ad (Lay K ad (fillF S (300 + 8 * i + k) j)) 0 0 [(3, .int (nI j)), (0, .ref (ad (200 + 8 * i + k))), (1, .ref (ad 11)), (2, .int (nI n))] 2 [] := by
    intro m
    induction m with
    | zero =>
      intro j he
      have he0 : j = n := by omega
      refine z_iload_n hx 0 d_Re_fill_2 rfl ?_
      refine z_iload_n hx 3 d_Re_fill_3 rfl ?_
      refine z_icmp_ge (tgt := 37) hx d_Re_fill_4 (by decide) (fun _ => ?_) (fun h => absurd (nI_le (Nat.le_of_eq he0.symm) (by omega)) h)
      refine z_aload_n hx 1 d_Re_fill_37 rfl ?_
      refine z_iload_n hx 3 d_Re_fill_38 rfl ?_
      refine z_put hx k_Re (t := 200 + 8 * i + k) (Lay_Re hi hk (by rw [fillF_n (by omega)]; exact ho)) 1 (by decide) a2_72 rfl rfl rfl (Nat.le_of_ble_eq_true rfl) d_Re_fill_39 (ce1 := Lay K ad (stM (fillF S (300 + 8 * i + k) j) (200 + 8 * i + k) 1 (nI n))) (put_Re1 hi hk (by rw [fillF_n (by omega)]; exact ho)) ?_
      refine z_aload_n hx 1 d_Re_fill_42 rfl ?_
      refine z_iconst (v := 0) hx d_Re_fill_43 rfl ?_
      refine z_put hx k_Re (t := 200 + 8 * i + k) (Lay_Re hi hk (ho_n (by omega) (by rw [fillF_n (by omega)]; exact ho))) 2 (by decide) a2_75 rfl rfl rfl (Nat.le_of_ble_eq_true rfl) d_Re_fill_44 (ce1 := Lay K ad (stM (stM (fillF S (300 + 8 * i + k) j) (200 + 8 * i + k) 1 (nI n)) (200 + 8 * i + k) 2 0)) (put_Re2 hi hk (ho_n (by omega) (by rw [fillF_n (by omega)]; exact ho))) ?_
      subst he0
      exact z_vret hx hr hq (Nat.le_refl _) (Nat.le_refl _) d_Re_fill_47 ⟨rfl, rfl, rfl⟩
    | succ m ih =>
      intro j he
      have hk9 : j < n := by omega
      refine z_iload_n hx 0 d_Re_fill_2 rfl ?_
      refine z_iload_n hx 3 d_Re_fill_3 rfl ?_
      refine z_icmp_ge (tgt := 37) hx d_Re_fill_4 (by decide) (fun h => absurd h (nI_ge hk9 (by omega))) (fun _ => ?_)
      refine z_iload_n hx 0 d_Re_fill_7 rfl ?_
      refine z_aload_n hx 2 d_Re_fill_8 rfl ?_
      refine z_alen hx 0 rfl (t := 11) rfl (v := 24) rfl d_Re_fill_9 ?_
      refine z_icmp_ge (tgt := 37) hx d_Re_fill_10 (by decide) (fun h => absurd h (nI_nleL 24 rfl (by omega) (by decide))) (fun _ => ?_)
      refine z_iload_n hx 0 d_Re_fill_13 rfl ?_
      refine z_aload_n hx 1 d_Re_fill_14 rfl ?_
      refine z_get hx k_Re (t := 200 + 8 * i + k) (Lay_Re hi hk (by rw [fillF_n (by omega)]; exact ho)) 0 (by decide) a2_71 rfl d_Re_fill_15 ?_
      refine z_alen hx 0 rfl (t := 300 + 8 * i + k) (Lay_ek hi hk (by rw [fillF_n (by omega)]; exact ho)) (v := 24) rfl d_Re_fill_18 ?_
      refine z_icmp_ge (tgt := 37) hx d_Re_fill_19 (by decide) (fun h => absurd h (nI_nleL 24 rfl (by omega) (by decide))) (fun _ => ?_)
      refine z_aload_n hx 1 d_Re_fill_22 rfl ?_
      refine z_get hx k_Re (t := 200 + 8 * i + k) (Lay_Re hi hk (by rw [fillF_n (by omega)]; exact ho)) 0 (by decide) a2_71 rfl d_Re_fill_23 ?_
      refine z_iload_n hx 0 d_Re_fill_26 rfl ?_
      refine z_aload_n hx 2 d_Re_fill_27 rfl ?_
      refine z_iload_n hx 0 d_Re_fill_28 rfl ?_
      refine z_ialdK hx 0 rfl (t := 11) rfl (k := j) (by omega) (by first | decide | omega) d_Re_fill_29 ?_
      refine z_top (b := S.2.2 11 j) (by rw [fillF_n (by omega)]) ?_
      refine z_iastK hx 0 rfl (t := 300 + 8 * i + k) (Lay_ek hi hk (by rw [fillF_n (by omega)]; exact ho)) (k := j) (by omega) (by first | decide | omega)  d_Re_fill_30 (ce1 := Lay K ad (stM (fillF S (300 + 8 * i + k) j) (300 + 8 * i + k) j (S.2.2 11 j))) (put_ek hi hk (by rw [fillF_n (by omega)]; exact ho)) ?_
      refine z_iinc (v := nI (j + 1)) hx 0 [(3, .int (nI (j + 1))), (0, .ref (ad (200 + 8 * i + k))), (1, .ref (ad 11)), (2, .int (nI n))] d_Re_fill_31 rfl (nI_1 j) (zN hml (by decide)) rfl ?_
      refine z_goto (tgt := 2) hx d_Re_fill_34 (by decide) ?_
      exact z_lv [0, 1, 2, 3] _ rfl (ih (j + 1) (by omega))
  show zV x ad (Lay K ad S) 0 0 [(0, .ref (ad (200 + 8 * i + k))), (1, .ref (ad 11)), (2, .int (nI n))] 0 []
  refine z_iconst (v := 0) hx d_Re_fill_0 rfl ?_
  refine z_top (b := nI 0) rfl ?_
  refine z_istore_n hx [(3, .int (nI 0)), (0, .ref (ad (200 + 8 * i + k))), (1, .ref (ad 11)), (2, .int (nI n))] d_Re_fill_1 rfl (zN hml (by decide)) rfl ?_
  exact z_lv [0, 1, 2, 3] _ rfl (loop n 0 (by omega))
end
section
set_option maxRecDepth 20000 in
theorem c_Re_nextKit {l : Launch} {D : va_G} {K : Nat → ClassId} {ad : Nat → Nat} {S : zSt} {i k : Nat} (hi : i < 10) (hk : k < 8) (ho : S.2.2 9 i ≠ 0) {a b : Nat} (hna : S.2.2 (200 + 8 * i + k) 2 = nI a) (hnb : S.2.2 (200 + 8 * i + k) 1 = nI b) (hab : a ≤ b) (hb : b ≤ 24) : zC l TB D zcls (ztyl K) y_Re_nextKit (.code y_Re_nextKit b_Re_nextKit 1 (some FieldType.int)) (rmk 0 0) [.ref (ad (200 + 8 * i + k))] ad (Lay K ad S) (zP K ad (some (.int (if a < b then S.2.2 (300 + 8 * i + k) a else -1))) S) := by
  refine zC.of (by decide +kernel) (Nat.le_of_ble_eq_true rfl) ?_
  intro x hx hr hml hnm hrm hq hNH
  show zV x ad (Lay K ad S) 0 0 [(0, .ref (ad (200 + 8 * i + k)))] 0 []
  refine z_aload_n hx 0 d_Re_nextKit_0 rfl ?_
  refine z_get hx k_Re (t := 200 + 8 * i + k) (Lay_Re hi hk ho) 2 (by decide) a2_75 rfl d_Re_nextKit_1 ?_
  refine z_top (b := nI a) hna ?_
  refine z_if_lt (tgt := 42) hx d_Re_nextKit_4 (by decide) (fun h => absurd h (nI_pos (by omega))) (fun _ => ?_)
  refine z_aload_n hx 0 d_Re_nextKit_7 rfl ?_
  refine z_get hx k_Re (t := 200 + 8 * i + k) (Lay_Re hi hk ho) 2 (by decide) a2_75 rfl d_Re_nextKit_8 ?_
  refine z_top (b := nI a) hna ?_
  refine z_aload_n hx 0 d_Re_nextKit_11 rfl ?_
  refine z_get hx k_Re (t := 200 + 8 * i + k) (Lay_Re hi hk ho) 1 (by decide) a2_72 rfl d_Re_nextKit_12 ?_
  refine z_top (b := nI b) hnb ?_
  refine z_icmp_ge (tgt := 42) hx d_Re_nextKit_15 (by decide) (fun h1 => ?_) (fun h1 => ?_)
  · refine z_iconst (v := (-1)) hx d_Re_nextKit_42 rfl ?_
    exact z_iret hx hr rfl hq (Nat.le_refl _) (Nat.le_refl _) d_Re_nextKit_43 ⟨by rw [if_neg (by have := zle_nI h1 (by omega) (by omega); omega)], rfl, rfl⟩
  · refine z_aload_n hx 0 d_Re_nextKit_18 rfl ?_
    refine z_get hx k_Re (t := 200 + 8 * i + k) (Lay_Re hi hk ho) 2 (by decide) a2_75 rfl d_Re_nextKit_19 ?_
    refine z_top (b := nI a) hna ?_
    refine z_aload_n hx 0 d_Re_nextKit_22 rfl ?_
    refine z_get hx k_Re (t := 200 + 8 * i + k) (Lay_Re hi hk ho) 0 (by decide) a2_71 rfl d_Re_nextKit_23 ?_
    refine z_alen hx 0 rfl (t := 300 + 8 * i + k) (Lay_ek hi hk ho) (v := 24) rfl d_Re_nextKit_26 ?_
    refine z_icmp_ge (tgt := 42) hx d_Re_nextKit_27 (by decide) (fun h => absurd h (nI_nleL 24 rfl (by have := zlt_nI h1 (by omega) (by omega); omega) (by decide))) (fun _ => ?_)
    refine z_aload_n hx 0 d_Re_nextKit_30 rfl ?_
    refine z_get hx k_Re (t := 200 + 8 * i + k) (Lay_Re hi hk ho) 0 (by decide) a2_71 rfl d_Re_nextKit_31 ?_
    refine z_aload_n hx 0 d_Re_nextKit_34 rfl ?_
    refine z_get hx k_Re (t := 200 + 8 * i + k) (Lay_Re hi hk ho) 2 (by decide) a2_75 rfl d_Re_nextKit_35 ?_
    refine z_top (b := nI a) hna ?_
    refine z_ialdK hx 0 rfl (t := 300 + 8 * i + k) (Lay_ek hi hk ho) (k := a) (by have := zlt_nI h1 (by omega) (by omega); omega) (by first | decide | omega) d_Re_nextKit_38 ?_
    refine z_goto (tgt := 43) hx d_Re_nextKit_39 (by decide) ?_
    exact z_iret hx hr rfl hq (Nat.le_refl _) (Nat.le_refl _) d_Re_nextKit_43 ⟨by rw [if_pos (zlt_nI h1 (by omega) (by omega))], rfl, rfl⟩
set_option maxRecDepth 20000 in
theorem c_Si_reserveFor {l : Launch} {D : va_G} {K : Nat → ClassId} {ad : Nat → Nat} {S : zSt} {i s : Nat} (hi : i < 10) (hs : s < 8) (ho : S.2.2 9 i ≠ 0) : zC l TB D zcls (ztyl K) y_Si_reserveFor (.code y_Si_reserveFor b_Si_reserveFor 2 (some (FieldType.object "TrialDesk$Reserve"))) (rmk 0 0) [.ref (ad (100 + i)), .int (nI s)] ad (Lay K ad S) (zP K ad (some (.ref (ad (200 + 8 * i + s)))) S) := by
  refine zC.of (by decide +kernel) (Nat.le_of_ble_eq_true rfl) ?_
  intro x hx hr hml hnm hrm hq hNH
  show zV x ad (Lay K ad S) 0 0 [(0, .ref (ad (100 + i))), (1, .int (nI s))] 0 []
  refine z_iload_n hx 1 d_Si_reserveFor_0 rfl ?_
  refine z_if_lt (tgt := 22) hx d_Si_reserveFor_1 (by decide) (fun h => absurd h (nI_pos (by omega))) (fun _ => ?_)
  refine z_iload_n hx 1 d_Si_reserveFor_4 rfl ?_
  refine z_aload_n hx 0 d_Si_reserveFor_5 rfl ?_
  refine z_get hx k_Si (t := 100 + i) (Lay_Si hi ho) 4 (by decide) a2_89 rfl d_Si_reserveFor_6 ?_
  refine z_alen hx 5 rfl (t := 150 + i) (Lay_ress hi ho) (v := 8) rfl d_Si_reserveFor_9 ?_
  refine z_icmp_ge (tgt := 22) hx d_Si_reserveFor_10 (by decide) (fun h => absurd h (nI_nleL 8 rfl hs (by decide))) (fun _ => ?_)
  refine z_aload_n hx 0 d_Si_reserveFor_13 rfl ?_
  refine z_get hx k_Si (t := 100 + i) (Lay_Si hi ho) 4 (by decide) a2_89 rfl d_Si_reserveFor_14 ?_
  refine z_iload_n hx 1 d_Si_reserveFor_17 rfl ?_
  refine z_aaldK hx 5 rfl (t := 150 + i) (Lay_ress hi ho) (k := s) (by omega) (by decide) (v := .ref (ad (200 + 8 * i + s))) rfl d_Si_reserveFor_18 ?_
  refine z_ifnonnullR (tgt := 30) hx d_Si_reserveFor_19 (by decide) ?_
  refine z_aload_n hx 0 d_Si_reserveFor_30 rfl ?_
  refine z_get hx k_Si (t := 100 + i) (Lay_Si hi ho) 4 (by decide) a2_89 rfl d_Si_reserveFor_31 ?_
  refine z_iload_n hx 1 d_Si_reserveFor_34 rfl ?_
  refine z_aaldK hx 5 rfl (t := 150 + i) (Lay_ress hi ho) (k := s) (by omega) (by decide) (v := .ref (ad (200 + 8 * i + s))) rfl d_Si_reserveFor_35 ?_
  exact z_aret hx hr (Or.inl ⟨_, rfl⟩) hq (Nat.le_refl _) (Nat.le_refl _) d_Si_reserveFor_36 ⟨rfl, rfl, rfl⟩
set_option maxRecDepth 20000 in
theorem c_Si_entriesLeft {l : Launch} {D : va_G} {K : Nat → ClassId} {ad : Nat → Nat} {S : zSt} {i : Nat} (hi : i < 10) (ho : S.2.2 9 i ≠ 0) : zC l TB D zcls (ztyl K) y_Si_entriesLeft (.code y_Si_entriesLeft b_Si_entriesLeft 4 (some FieldType.int)) (rmk 1 21) [.ref (ad (100 + i))] ad (Lay K ad S) (zP K ad (some (.int (elF S i 8))) S) := by
  refine zC.of (by decide +kernel) (Nat.le_of_ble_eq_true rfl) ?_
  intro x hx hr hml hnm hrm hq hNH
  have loop : ∀ (m k : Nat), k + m = 8 → zV x ad (Lay K ad S) 0 0 [(2, .int (nI k)), (1, .int (elF S i k)), (0, .ref (ad (100 + i)))] 4 [] := by
    intro m
    induction m with
    | zero =>
      intro k he
      obtain rfl : k = 8 := by omega
      refine z_iload_n hx 0 d_Si_entriesLeft_4 rfl ?_
      refine z_aload_n hx 2 d_Si_entriesLeft_5 rfl ?_
      refine z_get hx k_Si (t := 100 + i) (Lay_Si hi ho) 4 (by decide) a2_89 rfl d_Si_entriesLeft_6 ?_
      refine z_alen hx 5 rfl (t := 150 + i) (Lay_ress hi ho) (v := 8) rfl d_Si_entriesLeft_9 ?_
      refine z_icmp_ge (tgt := 37) hx d_Si_entriesLeft_10 (by decide) (fun _ => ?_) (fun h => absurd (by decide) h)
      refine z_iload_n hx 1 d_Si_entriesLeft_37 rfl ?_
      exact z_iret hx hr rfl hq (Nat.le_refl _) (Nat.le_refl _) d_Si_entriesLeft_38 ⟨rfl, rfl, rfl⟩
    | succ m ih =>
      intro k he
      have hk : k < 8 := by omega
      refine z_iload_n hx 0 d_Si_entriesLeft_4 rfl ?_
      refine z_aload_n hx 2 d_Si_entriesLeft_5 rfl ?_
      refine z_get hx k_Si (t := 100 + i) (Lay_Si hi ho) 4 (by decide) a2_89 rfl d_Si_entriesLeft_6 ?_
      refine z_alen hx 5 rfl (t := 150 + i) (Lay_ress hi ho) (v := 8) rfl d_Si_entriesLeft_9 ?_
      refine z_icmp_ge (tgt := 37) hx d_Si_entriesLeft_10 (by decide) (fun h => absurd h (nI_nleL 8 rfl hk (by decide))) (fun _ => ?_)
      refine z_aload_n hx 2 d_Si_entriesLeft_13 rfl ?_
      refine z_iload_n hx 0 d_Si_entriesLeft_14 rfl ?_
      refine z_cV hx (c_Si_reserveFor hi hk ho) k_Si (Lay_Si hi ho) ⟨a3_78, a3_23, a1_13, ⟨by decide +kernel, by decide +kernel⟩, fun sig h => by cases h; rfl⟩ a3_21 a3_22 rfl rfl d_Si_entriesLeft_15 (by rw [hrm]; exact ⟨Nat.le_of_ble_eq_true rfl, Nat.le_of_ble_eq_true rfl, Nat.le_of_ble_eq_true rfl, Nat.le_of_ble_eq_true rfl⟩) ?_
      show zV x ad (Lay K ad S) _ _ _ 18 [.ref (ad (200 + 8 * i + k))]
      refine z_astore_n hx [(3, .ref (ad (200 + 8 * i + k))), (2, .int (nI k)), (1, .int (elF S i k)), (0, .ref (ad (100 + i)))] d_Si_entriesLeft_18 rfl (zN hml (by decide)) rfl ?_
      refine z_iload_n hx 2 d_Si_entriesLeft_19 rfl ?_
      refine z_aload_n hx 0 d_Si_entriesLeft_20 rfl ?_
      refine z_getN hx k_Re (t := 200 + 8 * i + k) (Lay_Re hi hk ho) 1 (by decide) a2_74 rfl d_Si_entriesLeft_21 ?_
      refine z_aload_n hx 0 d_Si_entriesLeft_24 rfl ?_
      refine z_getN hx k_Re (t := 200 + 8 * i + k) (Lay_Re hi hk ho) 2 (by decide) a2_77 rfl d_Si_entriesLeft_25 ?_
      refine z_isub hx d_Si_entriesLeft_28 ?_
      refine z_iadd hx d_Si_entriesLeft_29 ?_
      refine z_top (b := elF S i (k + 1)) rfl ?_
      refine z_istore_n hx [(1, .int (elF S i (k + 1))), (3, .ref (ad (200 + 8 * i + k))), (2, .int (nI k)), (0, .ref (ad (100 + i)))] d_Si_entriesLeft_30 rfl (zN hml (by decide)) rfl ?_
      refine z_iinc (v := nI (k + 1)) hx 2 [(2, .int (nI (k + 1))), (1, .int (elF S i (k + 1))), (3, .ref (ad (200 + 8 * i + k))), (0, .ref (ad (100 + i)))] d_Si_entriesLeft_31 rfl (nI_1 k) (zN hml (by decide)) rfl ?_
      refine z_goto (tgt := 4) hx d_Si_entriesLeft_34 (by decide) ?_
      exact z_lv [0, 1, 3] _ rfl (ih (k + 1) (by omega))
  show zV x ad (Lay K ad S) 0 0 [(0, .ref (ad (100 + i)))] 0 []
  refine z_iconst (v := 0) hx d_Si_entriesLeft_0 rfl ?_
  refine z_top (b := elF S i 0) rfl ?_
  refine z_istore_n hx [(1, .int (elF S i 0)), (0, .ref (ad (100 + i)))] d_Si_entriesLeft_1 rfl (zN hml (by decide)) rfl ?_
  refine z_iconst (v := 0) hx d_Si_entriesLeft_2 rfl ?_
  refine z_top (b := nI 0) rfl ?_
  refine z_istore_n hx [(2, .int (nI 0)), (1, .int (elF S i 0)), (0, .ref (ad (100 + i)))] d_Si_entriesLeft_3 rfl (zN hml (by decide)) rfl ?_
  exact z_lv [0, 1, 2] _ rfl (loop 8 0 (by omega))
set_option maxRecDepth 20000 in
theorem c_Si_dropReserves {l : Launch} {D : va_G} {K : Nat → ClassId} {ad : Nat → Nat} {S : zSt} {i : Nat} (hi : i < 10) (ho : S.2.2 9 i ≠ 0) : zC l TB D zcls (ztyl K) y_Si_dropReserves (.code y_Si_dropReserves b_Si_dropReserves 2 (none : Option FieldType)) (rmk 1 21) [.ref (ad (100 + i))] ad (Lay K ad S) (zP K ad none (dropF S i 8)) := by
  refine zC.of (by decide +kernel) (Nat.le_of_ble_eq_true rfl) ?_
  intro x hx hr hml hnm hrm hq hNH
  have loop : ∀ (m k : Nat), k + m = 8 → zV x ad (Lay K ad (dropF S i k)) 0 0 [(1, .int (nI k)), (0, .ref (ad (100 + i)))] 2 [] := by
    intro m
    induction m with
    | zero =>
      intro k he
      obtain rfl : k = 8 := by omega
      refine z_iload_n hx 0 d_Si_dropReserves_2 rfl ?_
      refine z_aload_n hx 1 d_Si_dropReserves_3 rfl ?_
      refine z_get hx k_Si (t := 100 + i) (Lay_Si hi (by rw [dropF_n (by omega)]; exact ho)) 4 (by decide) a2_89 rfl d_Si_dropReserves_4 ?_
      refine z_alen hx 5 rfl (t := 150 + i) (Lay_ress hi (by rw [dropF_n (by omega)]; exact ho)) (v := 8) rfl d_Si_dropReserves_7 ?_
      refine z_icmp_ge (tgt := 25) hx d_Si_dropReserves_8 (by decide) (fun _ => ?_) (fun h => absurd (by decide) h)
      exact z_vret hx hr hq (Nat.le_refl _) (Nat.le_refl _) d_Si_dropReserves_25 ⟨rfl, rfl, rfl⟩
    | succ m ih =>
      intro k he
      have hk : k < 8 := by omega
      refine z_iload_n hx 0 d_Si_dropReserves_2 rfl ?_
      refine z_aload_n hx 1 d_Si_dropReserves_3 rfl ?_
      refine z_get hx k_Si (t := 100 + i) (Lay_Si hi (by rw [dropF_n (by omega)]; exact ho)) 4 (by decide) a2_89 rfl d_Si_dropReserves_4 ?_
      refine z_alen hx 5 rfl (t := 150 + i) (Lay_ress hi (by rw [dropF_n (by omega)]; exact ho)) (v := 8) rfl d_Si_dropReserves_7 ?_
      refine z_icmp_ge (tgt := 25) hx d_Si_dropReserves_8 (by decide) (fun h => absurd h (nI_nleL 8 rfl hk (by decide))) (fun _ => ?_)
      refine z_aload_n hx 1 d_Si_dropReserves_11 rfl ?_
      refine z_iload_n hx 0 d_Si_dropReserves_12 rfl ?_
      refine z_cV hx (c_Si_reserveFor hi hk (by rw [dropF_n (by omega)]; exact ho)) k_Si (Lay_Si hi (by rw [dropF_n (by omega)]; exact ho)) ⟨a3_78, a3_23, a1_13, ⟨by decide +kernel, by decide +kernel⟩, fun sig h => by cases h; rfl⟩ a3_21 a3_22 rfl rfl d_Si_dropReserves_13 (by rw [hrm]; exact ⟨Nat.le_of_ble_eq_true rfl, Nat.le_of_ble_eq_true rfl, Nat.le_of_ble_eq_true rfl, Nat.le_of_ble_eq_true rfl⟩) ?_
      show zV x ad (Lay K ad (dropF S i k)) _ _ _ 16 [.ref (ad (200 + 8 * i + k))]
      refine z_cV hx (c_Re_drop hi hk (by rw [dropF_n (by omega)]; exact ho)) k_Re (Lay_Re hi hk (by rw [dropF_n (by omega)]; exact ho)) ⟨a3_79, a3_82, a1_14, ⟨by decide +kernel, by decide +kernel⟩, fun sig h => by cases h; rfl⟩ a3_80 a3_81 rfl rfl d_Si_dropReserves_16 (by rw [hrm]; exact ⟨Nat.le_of_ble_eq_true rfl, Nat.le_of_ble_eq_true rfl, Nat.le_of_ble_eq_true rfl, Nat.le_of_ble_eq_true rfl⟩) ?_
      show zV x ad (Lay K ad (stM (stM (dropF S i k) (200 + 8 * i + k) 1 0) (200 + 8 * i + k) 2 0)) _ _ _ 19 []
      refine z_iinc (v := nI (k + 1)) hx 0 [(1, .int (nI (k + 1))), (0, .ref (ad (100 + i)))] d_Si_dropReserves_19 rfl (nI_1 k) (zN hml (by decide)) rfl ?_
      refine z_goto (tgt := 2) hx d_Si_dropReserves_22 (by decide) ?_
      exact z_lv [0, 1] _ rfl (ih (k + 1) (by omega))
  show zV x ad (Lay K ad S) 0 0 [(0, .ref (ad (100 + i)))] 0 []
  refine z_iconst (v := 0) hx d_Si_dropReserves_0 rfl ?_
  refine z_top (b := nI 0) rfl ?_
  refine z_istore_n hx [(1, .int (nI 0)), (0, .ref (ad (100 + i)))] d_Si_dropReserves_1 rfl (zN hml (by decide)) rfl ?_
  exact z_lv [0, 1] _ rfl (loop 8 0 (by omega))
set_option maxRecDepth 20000 in
theorem c_St_restart {l : Launch} {D : va_G} {K : Nat → ClassId} {ad : Nat → Nat} {S : zSt} {s : Nat} (hs : s < 8) {w : Int64} : zC l TB D zcls (ztyl K) y_St_restart (.code y_St_restart b_St_restart 3 (none : Option FieldType)) (rmk 0 0) [.ref (ad (40 + s)), .long w] ad (Lay K ad S) (zP K ad none (if w ^^^ (S.2.2 (40 + s) 1 + 1).toInt64 * (-7046029254386353131) = 0 then stM (stL (stL S (40 + s) 4 (w ^^^ (S.2.2 (40 + s) 1 + 1).toInt64 * (-7046029254386353131))) (40 + s) 4 1) (40 + s) 5 0 else stM (stL S (40 + s) 4 (w ^^^ (S.2.2 (40 + s) 1 + 1).toInt64 * (-7046029254386353131))) (40 + s) 5 0)) := by
  refine zC.of (by decide +kernel) (Nat.le_of_ble_eq_true rfl) ?_
  intro x hx hr hml hnm hrm hq hNH
  show zV x ad (Lay K ad S) 0 0 [(0, .ref (ad (40 + s))), (1, .long w)] 0 []
  refine z_aload_n hx 0 d_St_restart_0 rfl ?_
  refine z_lload_n hx 1 d_St_restart_1 rfl ?_
  refine z_aload_n hx 0 d_St_restart_2 rfl ?_
  refine z_get hx k_St (t := 40 + s) (Lay_St hs) 1 (by decide) a1_98 rfl d_St_restart_3 ?_
  refine z_iconst (v := 1) hx d_St_restart_6 rfl ?_
  refine z_iadd hx d_St_restart_7 ?_
  refine z_i2l hx d_St_restart_8 ?_
  refine z_ldc2 (v := (-7046029254386353131)) hx d_St_restart_9 a2_50 ?_
  refine z_lmul hx d_St_restart_12 ?_
  refine z_lxor hx d_St_restart_13 ?_
  refine z_put hx k_St (t := 40 + s) (Lay_St hs) 4 (by decide) a1_101 rfl rfl rfl (Nat.le_of_ble_eq_true rfl) d_St_restart_14 (ce1 := Lay K ad (stL S (40 + s) 4 (w ^^^ ((((S.2.2 (40 + s) 1) + 1).toInt64) * ((-7046029254386353131)))))) (put_St4 hs) ?_
  refine z_aload_n hx 0 d_St_restart_17 rfl ?_
  refine z_get hx k_St (t := 40 + s) (Lay_St hs) 4 (by decide) a1_101 rfl d_St_restart_18 ?_
  refine z_lconst (v := 0) hx d_St_restart_21 rfl ?_
  refine z_lcmp hx d_St_restart_22 ?_
  refine z_if_ne (tgt := 31) hx d_St_restart_23 (by decide) (fun h1 => ?_) (fun h1 => ?_)
  · refine z_aload_n hx 0 d_St_restart_31 rfl ?_
    refine z_iconst (v := 0) hx d_St_restart_32 rfl ?_
    refine z_put hx k_St (t := 40 + s) (Lay_St hs) 5 (by decide) a1_102 rfl rfl rfl (Nat.le_of_ble_eq_true rfl) d_St_restart_33 (ce1 := Lay K ad (stM (stL S (40 + s) 4 (w ^^^ ((((S.2.2 (40 + s) 1) + 1).toInt64) * ((-7046029254386353131))))) (40 + s) 5 0)) (put_St5 hs) ?_
    exact z_vret hx hr hq (Nat.le_refl _) (Nat.le_refl _) d_St_restart_36 ⟨rfl, rfl, by rw [if_neg (fun z => h1 ((lg_cmp_eq _ _).mpr (by rw [← z]; first | rfl | simp [stL, vp_updL])))]⟩
  · refine z_aload_n hx 0 d_St_restart_26 rfl ?_
    refine z_lconst (v := 1) hx d_St_restart_27 rfl ?_
    refine z_put hx k_St (t := 40 + s) (Lay_St hs) 4 (by decide) a1_101 rfl rfl rfl (Nat.le_of_ble_eq_true rfl) d_St_restart_28 (ce1 := Lay K ad (stL (stL S (40 + s) 4 (w ^^^ ((((S.2.2 (40 + s) 1) + 1).toInt64) * ((-7046029254386353131))))) (40 + s) 4 1)) (put_St4 hs) ?_
    refine z_aload_n hx 0 d_St_restart_31 rfl ?_
    refine z_iconst (v := 0) hx d_St_restart_32 rfl ?_
    refine z_put hx k_St (t := 40 + s) (Lay_St hs) 5 (by decide) a1_102 rfl rfl rfl (Nat.le_of_ble_eq_true rfl) d_St_restart_33 (ce1 := Lay K ad (stM (stL (stL S (40 + s) 4 (w ^^^ ((((S.2.2 (40 + s) 1) + 1).toInt64) * ((-7046029254386353131))))) (40 + s) 4 1) (40 + s) 5 0)) (put_St5 hs) ?_
    exact z_vret hx hr hq (Nat.le_refl _) (Nat.le_refl _) d_St_restart_36 ⟨rfl, rfl, by rw [if_pos (by have z := (lg_cmp_eq _ _).mp h1; first | exact z | simpa [stL, vp_updL] using z)]⟩
set_option maxRecDepth 20000 in
theorem c_St_takeBlock {l : Launch} {D : va_G} {K : Nat → ClassId} {ad : Nat → Nat} {S : zSt} {s : Nat} (hs : s < 8) : zC l TB D zcls (ztyl K) y_St_takeBlock (.code y_St_takeBlock b_St_takeBlock 1 (some FieldType.int)) (rmk 0 0) [.ref (ad (40 + s))] ad (Lay K ad S) (zP K ad (some (.int (S.2.2 (40 + s) 6 + 1 - 1))) (stM S (40 + s) 6 (S.2.2 (40 + s) 6 + 1))) := by
  refine zC.of (by decide +kernel) (Nat.le_of_ble_eq_true rfl) ?_
  intro x hx hr hml hnm hrm hq hNH
  show zV x ad (Lay K ad S) 0 0 [(0, .ref (ad (40 + s)))] 0 []
  refine z_aload_n hx 0 d_St_takeBlock_0 rfl ?_
  refine z_dup hx d_St_takeBlock_1 rfl ?_
  refine z_get hx k_St (t := 40 + s) (Lay_St hs) 6 (by decide) a1_103 rfl d_St_takeBlock_2 ?_
  refine z_iconst (v := 1) hx d_St_takeBlock_5 rfl ?_
  refine z_iadd hx d_St_takeBlock_6 ?_
  refine z_put hx k_St (t := 40 + s) (Lay_St hs) 6 (by decide) a1_103 rfl rfl rfl (Nat.le_of_ble_eq_true rfl) d_St_takeBlock_7 (ce1 := Lay K ad (stM S (40 + s) 6 ((S.2.2 (40 + s) 6) + 1))) (put_St6 hs) ?_
  refine z_aload_n hx 0 d_St_takeBlock_10 rfl ?_
  refine z_get hx k_St (t := 40 + s) (Lay_St hs) 6 (by decide) a1_103 rfl d_St_takeBlock_11 ?_
  refine z_top (b := S.2.2 (40 + s) 6 + 1) (by rw [stM_s]; rfl) ?_
  refine z_iconst (v := 1) hx d_St_takeBlock_14 rfl ?_
  refine z_isub hx d_St_takeBlock_15 ?_
  exact z_iret hx hr rfl hq (Nat.le_refl _) (Nat.le_refl _) d_St_takeBlock_16 ⟨rfl, rfl, rfl⟩
set_option maxRecDepth 20000 in
theorem c_St_addKnown {l : Launch} {D : va_G} {K : Nat → ClassId} {ad : Nat → Nat} {S : zSt} {s : Nat} (hs : s < 8) {a : Nat} (ha : a < 4) : zC l TB D zcls (ztyl K) y_St_addKnown (.code y_St_addKnown b_St_addKnown 2 (none : Option FieldType)) (rmk 0 0) [.ref (ad (40 + s)), .int (nI a)] ad (Lay K ad S) (zP K ad none (stM S (50 + s) a (S.2.2 (50 + s) a + 1))) := by
  refine zC.of (by decide +kernel) (Nat.le_of_ble_eq_true rfl) ?_
  intro x hx hr hml hnm hrm hq hNH
  show zV x ad (Lay K ad S) 0 0 [(0, .ref (ad (40 + s))), (1, .int (nI a))] 0 []
  refine z_iload_n hx 1 d_St_addKnown_0 rfl ?_
  refine z_if_lt (tgt := 23) hx d_St_addKnown_1 (by decide) (fun h => absurd h (nI_pos (by omega))) (fun _ => ?_)
  refine z_iload_n hx 1 d_St_addKnown_4 rfl ?_
  refine z_aload_n hx 0 d_St_addKnown_5 rfl ?_
  refine z_get hx k_St (t := 40 + s) (Lay_St hs) 2 (by decide) a1_99 rfl d_St_addKnown_6 ?_
  refine z_alen hx 0 rfl (t := 50 + s) (Lay_kn hs) (v := 4) rfl d_St_addKnown_9 ?_
  refine z_icmp_ge (tgt := 23) hx d_St_addKnown_10 (by decide) (fun h => absurd h (nI_nleL 4 rfl ha (by decide))) (fun _ => ?_)
  refine z_aload_n hx 0 d_St_addKnown_13 rfl ?_
  refine z_get hx k_St (t := 40 + s) (Lay_St hs) 2 (by decide) a1_99 rfl d_St_addKnown_14 ?_
  refine z_iload_n hx 1 d_St_addKnown_17 rfl ?_
  refine z_dup2_11 hx d_St_addKnown_18 rfl rfl ?_
  refine z_ialdK hx 0 rfl (t := 50 + s) (Lay_kn hs) (k := a) (by omega) (by first | decide | omega) d_St_addKnown_19 ?_
  refine z_iconst (v := 1) hx d_St_addKnown_20 rfl ?_
  refine z_iadd hx d_St_addKnown_21 ?_
  refine z_iastK hx 0 rfl (t := 50 + s) (Lay_kn hs) (k := a) (by omega) (by first | decide | omega)  d_St_addKnown_22 (ce1 := Lay K ad (stM S (50 + s) a ((S.2.2 (50 + s) a) + 1))) (put_kn hs) ?_
  exact z_vret hx hr hq (Nat.le_refl _) (Nat.le_refl _) d_St_addKnown_23 ⟨rfl, rfl, rfl⟩
set_option maxRecDepth 20000 in
theorem c_St_knownWith {l : Launch} {D : va_G} {K : Nat → ClassId} {ad : Nat → Nat} {S : zSt} {s : Nat} (hs : s < 8) {a : Nat} (ha : a < 4) : zC l TB D zcls (ztyl K) y_St_knownWith (.code y_St_knownWith b_St_knownWith 2 (some FieldType.int)) (rmk 0 0) [.ref (ad (40 + s)), .int (nI a)] ad (Lay K ad S) (zP K ad (some (.int (S.2.2 (50 + s) a))) S) := by
  refine zC.of (by decide +kernel) (Nat.le_of_ble_eq_true rfl) ?_
  intro x hx hr hml hnm hrm hq hNH
  show zV x ad (Lay K ad S) 0 0 [(0, .ref (ad (40 + s))), (1, .int (nI a))] 0 []
  refine z_iload_n hx 1 d_St_knownWith_0 rfl ?_
  refine z_if_lt (tgt := 22) hx d_St_knownWith_1 (by decide) (fun h => absurd h (nI_pos (by omega))) (fun _ => ?_)
  refine z_iload_n hx 1 d_St_knownWith_4 rfl ?_
  refine z_aload_n hx 0 d_St_knownWith_5 rfl ?_
  refine z_get hx k_St (t := 40 + s) (Lay_St hs) 2 (by decide) a1_99 rfl d_St_knownWith_6 ?_
  refine z_alen hx 0 rfl (t := 50 + s) (Lay_kn hs) (v := 4) rfl d_St_knownWith_9 ?_
  refine z_icmp_ge (tgt := 22) hx d_St_knownWith_10 (by decide) (fun h => absurd h (nI_nleL 4 rfl ha (by decide))) (fun _ => ?_)
  refine z_aload_n hx 0 d_St_knownWith_13 rfl ?_
  refine z_get hx k_St (t := 40 + s) (Lay_St hs) 2 (by decide) a1_99 rfl d_St_knownWith_14 ?_
  refine z_iload_n hx 1 d_St_knownWith_17 rfl ?_
  refine z_ialdK hx 0 rfl (t := 50 + s) (Lay_kn hs) (k := a) (by omega) (by first | decide | omega) d_St_knownWith_18 ?_
  refine z_goto (tgt := 23) hx d_St_knownWith_19 (by decide) ?_
  exact z_iret hx hr rfl hq (Nat.le_refl _) (Nat.le_refl _) d_St_knownWith_23 ⟨rfl, rfl, rfl⟩
set_option maxRecDepth 20000 in
theorem c_St_armAt {l : Launch} {D : va_G} {K : Nat → ClassId} {ad : Nat → Nat} {S : zSt} {s : Nat} (hs : s < 8) {q B Z : Nat} (hB : S.2.2 (40 + s) 5 = nI B) (hZ : S.2.2 1 3 = nI Z) (hBZ : B * Z < 2 ^ 31) (hq0 : q < 2 ^ 31) (hL : S.1 (60 + s) < 2 ^ 31) : zC l TB D zcls (ztyl K) y_St_armAt (.code y_St_armAt b_St_armAt 2 (some FieldType.int)) (rmk 0 0) [.ref (ad (40 + s)), .int (nI q)] ad (Lay K ad S) (zP K ad (some (.int (if q < B * Z ∧ q < S.1 (60 + s) then S.2.2 (60 + s) q else -1))) S) := by
  refine zC.of (by decide +kernel) (Nat.le_of_ble_eq_true rfl) ?_
  intro x hx hr hml hnm hrm hq hNH
  show zV x ad (Lay K ad S) 0 0 [(0, .ref (ad (40 + s))), (1, .int (nI q))] 0 []
  refine z_iload_n hx 1 d_St_armAt_0 rfl ?_
  refine z_if_lt (tgt := 38) hx d_St_armAt_1 (by decide) (fun h => absurd h (nI_pos hq0)) (fun _ => ?_)
  refine z_iload_n hx 1 d_St_armAt_4 rfl ?_
  refine z_aload_n hx 0 d_St_armAt_5 rfl ?_
  refine z_get hx k_St (t := 40 + s) (Lay_St hs) 5 (by decide) a1_102 rfl d_St_armAt_6 ?_
  refine z_top (b := nI B) hB ?_
  refine z_aload_n hx 0 d_St_armAt_9 rfl ?_
  refine z_get hx k_St (t := 40 + s) (Lay_St hs) 0 (by decide) a1_97 rfl d_St_armAt_10 ?_
  refine z_getN hx k_Pl (t := 1) rfl 3 (by decide) a1_39 rfl d_St_armAt_13 ?_
  refine z_top (b := nI Z) hZ ?_
  refine z_imul hx d_St_armAt_16 ?_
  refine z_top (b := nI (B * Z)) (pk_mul B Z) ?_
  refine z_icmp_ge (tgt := 38) hx d_St_armAt_17 (by decide) (fun h1 => ?_) (fun h1 => ?_)
  · refine z_iconst (v := (-1)) hx d_St_armAt_38 rfl ?_
    exact z_iret hx hr rfl hq (Nat.le_refl _) (Nat.le_refl _) d_St_armAt_39 ⟨by rw [if_neg (fun z => absurd z.1 (by have := zle_nI h1 hBZ hq0; omega))], rfl, rfl⟩
  · refine z_iload_n hx 1 d_St_armAt_20 rfl ?_
    refine z_aload_n hx 0 d_St_armAt_21 rfl ?_
    refine z_get hx k_St (t := 40 + s) (Lay_St hs) 3 (by decide) a1_100 rfl d_St_armAt_22 ?_
    refine z_alen hx 0 rfl (t := 60 + s) (Lay_li hs) (v := nI (S.1 (60 + s))) rfl d_St_armAt_25 ?_
    refine z_icmp_ge (tgt := 38) hx d_St_armAt_26 (by decide) (fun h2 => ?_) (fun h2 => ?_)
    · refine z_iconst (v := (-1)) hx d_St_armAt_38 rfl ?_
      exact z_iret hx hr rfl hq (Nat.le_refl _) (Nat.le_refl _) d_St_armAt_39 ⟨by rw [if_neg (fun z => absurd z.2 (by have := zle_nI h2 hL hq0; omega))], rfl, rfl⟩
    · refine z_aload_n hx 0 d_St_armAt_29 rfl ?_
      refine z_get hx k_St (t := 40 + s) (Lay_St hs) 3 (by decide) a1_100 rfl d_St_armAt_30 ?_
      refine z_iload_n hx 1 d_St_armAt_33 rfl ?_
      refine z_ialdK hx 0 rfl (t := 60 + s) (Lay_li hs) (k := q) (zlt_nI h2 hq0 hL) (by first | decide | omega) d_St_armAt_34 ?_
      refine z_goto (tgt := 39) hx d_St_armAt_35 (by decide) ?_
      exact z_iret hx hr rfl hq (Nat.le_refl _) (Nat.le_refl _) d_St_armAt_39 ⟨by rw [if_pos ⟨zlt_nI h1 hq0 hBZ, zlt_nI h2 hq0 hL⟩], rfl, rfl⟩
set_option maxRecDepth 20000 in
theorem c_St_armAt_neg {l : Launch} {D : va_G} {K : Nat → ClassId} {ad : Nat → Nat} {S : zSt} {s : Nat} (hs : s < 8) {v : Int32} (hv : v < 0) : zC l TB D zcls (ztyl K) y_St_armAt (.code y_St_armAt b_St_armAt 2 (some FieldType.int)) (rmk 0 0) [.ref (ad (40 + s)), .int v] ad (Lay K ad S) (zP K ad (some (.int (-1))) S) := by
  refine zC.of (by decide +kernel) (Nat.le_of_ble_eq_true rfl) ?_
  intro x hx hr hml hnm hrm hq hNH
  show zV x ad (Lay K ad S) 0 0 [(0, .ref (ad (40 + s))), (1, .int v)] 0 []
  refine z_iload_n hx 1 d_St_armAt_0 rfl ?_
  refine z_if_lt (tgt := 38) hx d_St_armAt_1 (by decide) (fun _ => ?_) (fun h => absurd hv h)
  refine z_iconst (v := (-1)) hx d_St_armAt_38 rfl ?_
  exact z_iret hx hr rfl hq (Nat.le_refl _) (Nat.le_refl _) d_St_armAt_39 ⟨rfl, rfl, rfl⟩
set_option maxRecDepth 20000 in
theorem c_St_takenArm {l : Launch} {D : va_G} {K : Nat → ClassId} {ad : Nat → Nat} {S : zSt} {s : Nat} (hs : s < 8) {q A B Z : Nat} (hB : S.2.2 (40 + s) 5 = nI B) (hA : S.2.2 (40 + s) 6 = nI A) (hZ : S.2.2 1 3 = nI Z) (hAZ : A * Z < 2 ^ 31) (hBZ : B * Z < 2 ^ 31) (hq0 : q < 2 ^ 31) (hL : S.1 (60 + s) < 2 ^ 31) : zC l TB D zcls (ztyl K) y_St_takenArm (.code y_St_takenArm b_St_takenArm 2 (some FieldType.int)) (rmk 1 21) [.ref (ad (40 + s)), .int (nI q)] ad (Lay K ad S) (zP K ad (some (.int (if q < A * Z then (if q < B * Z ∧ q < S.1 (60 + s) then S.2.2 (60 + s) q else -1) else -1))) S) := by
  refine zC.of (by decide +kernel) (Nat.le_of_ble_eq_true rfl) ?_
  intro x hx hr hml hnm hrm hq hNH
  show zV x ad (Lay K ad S) 0 0 [(0, .ref (ad (40 + s))), (1, .int (nI q))] 0 []
  refine z_iload_n hx 1 d_St_takenArm_0 rfl ?_
  refine z_aload_n hx 0 d_St_takenArm_1 rfl ?_
  refine z_get hx k_St (t := 40 + s) (Lay_St hs) 6 (by decide) a1_103 rfl d_St_takenArm_2 ?_
  refine z_top (b := nI A) hA ?_
  refine z_aload_n hx 0 d_St_takenArm_5 rfl ?_
  refine z_get hx k_St (t := 40 + s) (Lay_St hs) 0 (by decide) a1_97 rfl d_St_takenArm_6 ?_
  refine z_getN hx k_Pl (t := 1) rfl 3 (by decide) a1_39 rfl d_St_takenArm_9 ?_
  refine z_top (b := nI Z) hZ ?_
  refine z_imul hx d_St_takenArm_12 ?_
  refine z_top (b := nI (A * Z)) (pk_mul A Z) ?_
  refine z_icmp_ge (tgt := 24) hx d_St_takenArm_13 (by decide) (fun h1 => ?_) (fun h1 => ?_)
  · refine z_iconst (v := (-1)) hx d_St_takenArm_24 rfl ?_
    exact z_iret hx hr rfl hq (Nat.le_refl _) (Nat.le_refl _) d_St_takenArm_25 ⟨by rw [if_neg (by have := zle_nI h1 hAZ hq0; omega)], rfl, rfl⟩
  · refine z_aload_n hx 0 d_St_takenArm_16 rfl ?_
    refine z_iload_n hx 1 d_St_takenArm_17 rfl ?_
    refine z_cV hx (c_St_armAt hs hB hZ hBZ hq0 hL) k_St (Lay_St hs) ⟨a2_167, a2_170, a1_5, ⟨by decide +kernel, by decide +kernel⟩, fun sig h => by cases h; rfl⟩ a2_169 s_St_armAt rfl rfl d_St_takenArm_18 (by rw [hrm]; exact ⟨Nat.le_of_ble_eq_true rfl, Nat.le_of_ble_eq_true rfl, Nat.le_of_ble_eq_true rfl, Nat.le_of_ble_eq_true rfl⟩) ?_
    show zV x ad (Lay K ad S) _ _ _ 21 [.int (if q < B * Z ∧ q < S.1 (60 + s) then S.2.2 (60 + s) q else -1)]
    refine z_goto (tgt := 25) hx d_St_takenArm_21 (by decide) ?_
    exact z_iret hx hr rfl hq (Nat.le_refl _) (Nat.le_refl _) d_St_takenArm_25 ⟨by rw [if_pos (zlt_nI h1 hq0 hAZ)], rfl, rfl⟩
set_option maxRecDepth 20000 in
theorem c_St_takenArm_neg {l : Launch} {D : va_G} {K : Nat → ClassId} {ad : Nat → Nat} {S : zSt} {s : Nat} (hs : s < 8) {A Z : Nat} (hA : S.2.2 (40 + s) 6 = nI A) (hZ : S.2.2 1 3 = nI Z) (hAZ : A * Z < 2 ^ 31) {v : Int32} (hv : v < 0) : zC l TB D zcls (ztyl K) y_St_takenArm (.code y_St_takenArm b_St_takenArm 2 (some FieldType.int)) (rmk 1 21) [.ref (ad (40 + s)), .int v] ad (Lay K ad S) (zP K ad (some (.int (-1))) S) := by
  refine zC.of (by decide +kernel) (Nat.le_of_ble_eq_true rfl) ?_
  intro x hx hr hml hnm hrm hq hNH
  show zV x ad (Lay K ad S) 0 0 [(0, .ref (ad (40 + s))), (1, .int v)] 0 []
  refine z_iload_n hx 1 d_St_takenArm_0 rfl ?_
  refine z_aload_n hx 0 d_St_takenArm_1 rfl ?_
  refine z_get hx k_St (t := 40 + s) (Lay_St hs) 6 (by decide) a1_103 rfl d_St_takenArm_2 ?_
  refine z_top (b := nI A) hA ?_
  refine z_aload_n hx 0 d_St_takenArm_5 rfl ?_
  refine z_get hx k_St (t := 40 + s) (Lay_St hs) 0 (by decide) a1_97 rfl d_St_takenArm_6 ?_
  refine z_getN hx k_Pl (t := 1) rfl 3 (by decide) a1_39 rfl d_St_takenArm_9 ?_
  refine z_top (b := nI Z) hZ ?_
  refine z_imul hx d_St_takenArm_12 ?_
  refine z_top (b := nI (A * Z)) (pk_mul A Z) ?_
  refine z_icmp_ge (tgt := 24) hx d_St_takenArm_13 (by decide) (fun h => absurd h (fun z => absurd (Int32.lt_of_le_of_lt z hv) (nI_pos hAZ))) (fun _ => ?_)
  refine z_aload_n hx 0 d_St_takenArm_16 rfl ?_
  refine z_iload_n hx 1 d_St_takenArm_17 rfl ?_
  refine z_cV hx (c_St_armAt_neg hs hv) k_St (Lay_St hs) ⟨a2_167, a2_170, a1_5, ⟨by decide +kernel, by decide +kernel⟩, fun sig h => by cases h; rfl⟩ a2_169 s_St_armAt rfl rfl d_St_takenArm_18 (by rw [hrm]; exact ⟨Nat.le_of_ble_eq_true rfl, Nat.le_of_ble_eq_true rfl, Nat.le_of_ble_eq_true rfl, Nat.le_of_ble_eq_true rfl⟩) ?_
  show zV x ad (Lay K ad S) _ _ _ 21 [.int ((-1))]
  refine z_goto (tgt := 25) hx d_St_takenArm_21 (by decide) ?_
  exact z_iret hx hr rfl hq (Nat.le_refl _) (Nat.le_refl _) d_St_takenArm_25 ⟨rfl, rfl, rfl⟩
end
section
theorem rd_s {S : zSt} {t j : Nat} {v : Int32} : (stM S t j v).2.2 t j = v := by rw [stM_s]; exact if_pos rfl
theorem rd_j {S : zSt} {t j j' : Nat} {v : Int32} (h : j' ≠ j) : (stM S t j v).2.2 t j' = S.2.2 t j' := by rw [stM_s]; exact if_neg h
theorem rd_n {S : zSt} {t u j j' : Nat} {v : Int32} (h : u ≠ t) : (stM S t j v).2.2 u j' = S.2.2 u j' := by rw [stM_n h]
theorem rdL_s {S : zSt} {t j : Nat} {v : Int64} : (stL S t j v).2.1 t j = v := by rw [stL_s]; exact if_pos rfl
theorem rdL_j {S : zSt} {t j j' : Nat} {v : Int64} (h : j' ≠ j) : (stL S t j v).2.1 t j' = S.2.1 t j' := by rw [stL_s]; exact if_neg h
theorem rdL_n {S : zSt} {t u j j' : Nat} {v : Int64} (h : u ≠ t) : (stL S t j v).2.1 u j' = S.2.1 u j' := by rw [stL_n h]
/-- the room of a call that throws and makes nothing else -/
abbrev rmx (f w : Nat) : Room := { frames := f, cells := 1, slots := 6, locals := w }
section ZX
variable {x : zX} {cc : ByteArray} {own : String} {l : Launch} {D : va_G} {K : Nat → ClassId} {ad : Nat → Nat} {S S' : zSt} {n i pc mc ms : Nat} {lv : List (Nat × Value)} {st : List Value} {post : zQ}
theorem z_xV (hx : zOk x cc own TB l D zcls (ztyl K)) {index na t ci N f w : Nat} {y : MethodName} {cb : ByteArray} {maxL : Nat} {ret : Option FieldType} {As : List Value} {E : String} {T : u_T} {ty : Nat → FieldType} {fs : List Value} (hM : zC l TB D zcls (ztyl K) y (.code y cb maxL ret) (rmx f w) (.ref (ad t) :: As) ad (Lay K ad S) (zX0 K ad E S)) (hc : zCl TB zcls ci y.cls T N ty) (he : Lay K ad S t = some (.inr (ci, fs)))
    (hg : zWc TB y cb maxL ret na (Cond.methodLink own index y)) (hi : Cond.instanceMethod y ∈ TB) (hse : Cond.selects y.cls y y ∈ TB) (hlen : As.length = na) {st0 : List Value} (hst0 : As.reverse ++ .ref (ad t) :: st = st0) (hd : decode cc pc = .ok (.invokevirtual index, 3))
    (hR : f + 1 ≤ (zRm x).frames ∧ (st.map fun v => v.category).sum + (maxL + 11) + w ≤ (zRm x).locals ∧ n + 1 ≤ (zRm x).cells ∧ i + 6 ≤ (zRm x).slots) (hq : zRet x mc ms post) (h1 : n + 1 ≤ mc) (h2 : i + 6 ≤ ms) (hNH : zNH x) (kp : post (.inr E) ad (Lay K ad S)) : zV x ad (Lay K ad S) n i lv pc st0 :=
  z_invV hx hc he hM hg hi hse hlen hst0 hd hR hq h1 h2 hNH (fun v ad' ce' h => by cases h.1) (fun E' ad' ce' h => by
    obtain ⟨h1, rfl, rfl⟩ := h
    cases h1
    exact kp)
theorem z_xS (hx : zOk x cc own TB l D zcls (ztyl K)) {index na f w : Nat} {y : MethodName} {cb : ByteArray} {maxL : Nat} {ret : Option FieldType} {As : List Value} {E : String} (hM : zC l TB D zcls (ztyl K) y (.code y cb maxL ret) (rmx f w) As ad (Lay K ad S) (zX0 K ad E S))
    (hg : zWc TB y cb maxL ret na (Cond.methodLink own index y)) (hi : Cond.static y ∈ TB) (hlen : As.length = na) {st0 : List Value} (hst0 : As.reverse ++ st = st0) (hd : decode cc pc = .ok (.invokestatic index, 3))
    (hR : f + 1 ≤ (zRm x).frames ∧ (st.map fun v => v.category).sum + (maxL + 11) + w ≤ (zRm x).locals ∧ n + 1 ≤ (zRm x).cells ∧ i + 6 ≤ (zRm x).slots) (hq : zRet x mc ms post) (h1 : n + 1 ≤ mc) (h2 : i + 6 ≤ ms) (hNH : zNH x) (kp : post (.inr E) ad (Lay K ad S)) : zV x ad (Lay K ad S) n i lv pc st0 :=
  z_invS hx hM hg hi hlen hst0 hd hR hq h1 h2 hNH (fun v ad' ce' h => by cases h.1) (fun E' ad' ce' h => by
    obtain ⟨h1, rfl, rfl⟩ := h
    cases h1
    exact kp)
theorem z_tabOut (hx : zOk x cc own TB l D zcls (ztyl K)) {ce : zW} {dflt lo hi : Int} {offs : Array Int} {len : Nat} {v : Int32} {tgt : Nat} (hd : decode cc pc = .ok (.tableswitch dflt lo hi offs, len)) (h : v.toInt < lo ∨ hi < v.toInt) (ht : (pc : Int) + dflt = (tgt : Int)) (k : zV x ad ce n i lv tgt st) : zV x ad ce n i lv pc (.int v :: st) := by
  obtain ⟨⟨p, l0, e, R, s⟩, ⟨m, args, below, meth, c⟩, ⟨D0, cl0, tys0⟩, A, Q⟩ := x
  obtain ⟨hexec, hb, hown, hts0, hK, hA, hlocks, hZ, hE1, hE⟩ := hx
  cases hE1
  cases hE
  have hts := fun w (h : w ∈ TB) => zT.at hts0 h args
  intro H locs ls hH hS hl
  exact lv_tableOut hexec hb hd h ht (k H locs ls hH hS hl)
theorem z_tabIn (hx : zOk x cc own TB l D zcls (ztyl K)) {ce : zW} {dflt lo hi : Int} {offs : Array Int} {len : Nat} {v : Int32} {off : Int} {tgt : Nat} (hd : decode cc pc = .ok (.tableswitch dflt lo hi offs, len)) (h1 : ¬ v.toInt < lo) (h2 : ¬ hi < v.toInt) (ho : offs[(v.toInt - lo).toNat]? = some off) (ht : (pc : Int) + off = (tgt : Int)) (k : zV x ad ce n i lv tgt st) : zV x ad ce n i lv pc (.int v :: st) := by
  obtain ⟨⟨p, l0, e, R, s⟩, ⟨m, args, below, meth, c⟩, ⟨D0, cl0, tys0⟩, A, Q⟩ := x
  obtain ⟨hexec, hb, hown, hts0, hK, hA, hlocks, hZ, hE1, hE⟩ := hx
  cases hE1
  cases hE
  have hts := fun w (h : w ∈ TB) => zT.at hts0 h args
  intro H locs ls hH hS hl
  exact lv_tableIn hexec hb hd h1 h2 ho ht (k H locs ls hH hS hl)
theorem z_ldcw (hx : zOk x cc own TB l D zcls (ztyl K)) {ce : zW} {idx : Nat} {v : Int32} (hd : decode cc pc = .ok (.ldc_w idx, 3)) (hw : Jvm.Cond.constant own idx v ∈ TB) (k : zV x ad ce n i lv (pc + 3) (.int v :: st)) : zV x ad ce n i lv pc st := by
  obtain ⟨⟨p, l0, e, R, s⟩, ⟨m, args, below, meth, c⟩, ⟨D0, cl0, tys0⟩, A, Q⟩ := x
  obtain ⟨hexec, hb, hown, hts0, hK, hA, hlocks, hZ, hE1, hE⟩ := hx
  cases hE1
  cases hE
  have hts := fun w (h : w ∈ TB) => zT.at hts0 h args
  intro H locs ls hH hS hl
  exact lv_ldcw hexec hb hown (hts _ hw) hd (k H locs ls hH hS hl)
end ZX
end
section
theorem w_86 : zWt TB R_TD 86 88 "java/lang/IndexOutOfBoundsException" := by
  refine ⟨by decide +kernel, by decide +kernel, by decide +kernel, by decide +kernel, by decide +kernel⟩
theorem w_57 : zWt TB R_TD 57 59 "java/lang/IllegalArgumentException" := by
  refine ⟨by decide +kernel, by decide +kernel, by decide +kernel, by decide +kernel, by decide +kernel⟩
theorem w_64 : zWt TB R_TD 64 66 "java/lang/IllegalStateException" := by
  refine ⟨by decide +kernel, by decide +kernel, by decide +kernel, by decide +kernel, by decide +kernel⟩
set_option maxRecDepth 20000 in
theorem c_TD_needKit {l : Launch} {D : va_G} {K : Nat → ClassId} {ad : Nat → Nat} {S : zSt} {k : Nat} (hk : k < 1000) : zC l TB D zcls (ztyl K) y_TD_needKit (.code y_TD_needKit b_TD_needKit 1 (none : Option FieldType)) (rmk 0 0) [.int (nI k)] ad (Lay K ad S) (zP K ad none S) := by
  refine zC.of (by decide +kernel) (Nat.le_of_ble_eq_true rfl) ?_
  intro x hx hr hml hnm hrm hq hNH
  show zV x ad (Lay K ad S) 0 0 [(0, .int (nI k))] 0 []
  refine z_iload_n hx 0 d_TD_needKit_0 rfl ?_
  refine z_if_lt (tgt := 11) hx d_TD_needKit_1 (by decide) (fun h => absurd h (nI_pos (by omega))) (fun _ => ?_)
  refine z_iload_n hx 0 d_TD_needKit_4 rfl ?_
  refine z_sipush (v := 1000) hx d_TD_needKit_5 rfl ?_
  refine z_icmp_lt (tgt := 19) hx d_TD_needKit_8 (by decide) (fun _ => ?_) (fun h => absurd (nI_ltL 1000 rfl hk (by decide)) h)
  exact z_vret hx hr hq (Nat.le_refl _) (Nat.le_refl _) d_TD_needKit_19 ⟨rfl, rfl, rfl⟩
set_option maxRecDepth 20000 in
theorem x_TD_needKit {l : Launch} (htr : l.stackTraces = false) {D : va_G} {K : Nat → ClassId} {ad : Nat → Nat} {S : zSt} {v : Int32} (hv : v < 0 ∨ ¬ v < 1000) : zC l TB D zcls (ztyl K) y_TD_needKit (.code y_TD_needKit b_TD_needKit 1 (none : Option FieldType)) (rmx 6 90) [.int v] ad (Lay K ad S) (zX0 K ad "java/lang/IndexOutOfBoundsException" S) := by
  refine zC.of (by decide +kernel) (Nat.le_of_ble_eq_true rfl) ?_
  intro x hx hr hml hnm hrm hq hNH
  show zV x ad (Lay K ad S) 0 0 [(0, .int v)] 0 []
  refine z_iload_n hx 0 d_TD_needKit_0 rfl ?_
  refine z_if_lt (tgt := 11) hx d_TD_needKit_1 (by decide) (fun h1 => ?_) (fun h1 => ?_)
  · exact z_throw hx htr (ik := 86) (ic := 88) w_86 hq (Nat.le_refl _) (Nat.le_refl _) hNH (by rw [hrm]; exact ⟨Nat.le_of_ble_eq_true rfl, Nat.le_of_ble_eq_true rfl, Nat.le_of_ble_eq_true rfl, Nat.le_of_ble_eq_true rfl⟩) d_TD_needKit_11 d_TD_needKit_14 d_TD_needKit_15 d_TD_needKit_18 ⟨rfl, rfl, rfl⟩
  · refine z_iload_n hx 0 d_TD_needKit_4 rfl ?_
    refine z_sipush (v := 1000) hx d_TD_needKit_5 rfl ?_
    refine z_icmp_lt (tgt := 19) hx d_TD_needKit_8 (by decide) (fun h => absurd h (hv.resolve_left h1)) (fun _ => ?_)
    exact z_throw hx htr (ik := 86) (ic := 88) w_86 hq (Nat.le_refl _) (Nat.le_refl _) hNH (by rw [hrm]; exact ⟨Nat.le_of_ble_eq_true rfl, Nat.le_of_ble_eq_true rfl, Nat.le_of_ble_eq_true rfl, Nat.le_of_ble_eq_true rfl⟩) d_TD_needKit_11 d_TD_needKit_14 d_TD_needKit_15 d_TD_needKit_18 ⟨rfl, rfl, rfl⟩
set_option maxRecDepth 20000 in
theorem c_TD_needPerson {l : Launch} {D : va_G} {K : Nat → ClassId} {ad : Nat → Nat} {S : zSt} {k : Nat} (hk : k < 100) : zC l TB D zcls (ztyl K) y_TD_needPerson (.code y_TD_needPerson b_TD_needPerson 1 (none : Option FieldType)) (rmk 0 0) [.int (nI k)] ad (Lay K ad S) (zP K ad none S) := by
  refine zC.of (by decide +kernel) (Nat.le_of_ble_eq_true rfl) ?_
  intro x hx hr hml hnm hrm hq hNH
  show zV x ad (Lay K ad S) 0 0 [(0, .int (nI k))] 0 []
  refine z_iload_n hx 0 d_TD_needPerson_0 rfl ?_
  refine z_if_lt (tgt := 10) hx d_TD_needPerson_1 (by decide) (fun h => absurd h (nI_pos (by omega))) (fun _ => ?_)
  refine z_iload_n hx 0 d_TD_needPerson_4 rfl ?_
  refine z_bipush (v := 100) hx d_TD_needPerson_5 rfl ?_
  refine z_icmp_lt (tgt := 18) hx d_TD_needPerson_7 (by decide) (fun _ => ?_) (fun h => absurd (nI_ltL 100 rfl hk (by decide)) h)
  exact z_vret hx hr hq (Nat.le_refl _) (Nat.le_refl _) d_TD_needPerson_18 ⟨rfl, rfl, rfl⟩
set_option maxRecDepth 20000 in
theorem x_TD_needPerson {l : Launch} (htr : l.stackTraces = false) {D : va_G} {K : Nat → ClassId} {ad : Nat → Nat} {S : zSt} {v : Int32} (hv : v < 0 ∨ ¬ v < 100) : zC l TB D zcls (ztyl K) y_TD_needPerson (.code y_TD_needPerson b_TD_needPerson 1 (none : Option FieldType)) (rmx 6 90) [.int v] ad (Lay K ad S) (zX0 K ad "java/lang/IndexOutOfBoundsException" S) := by
  refine zC.of (by decide +kernel) (Nat.le_of_ble_eq_true rfl) ?_
  intro x hx hr hml hnm hrm hq hNH
  show zV x ad (Lay K ad S) 0 0 [(0, .int v)] 0 []
  refine z_iload_n hx 0 d_TD_needPerson_0 rfl ?_
  refine z_if_lt (tgt := 10) hx d_TD_needPerson_1 (by decide) (fun h1 => ?_) (fun h1 => ?_)
  · exact z_throw hx htr (ik := 86) (ic := 88) w_86 hq (Nat.le_refl _) (Nat.le_refl _) hNH (by rw [hrm]; exact ⟨Nat.le_of_ble_eq_true rfl, Nat.le_of_ble_eq_true rfl, Nat.le_of_ble_eq_true rfl, Nat.le_of_ble_eq_true rfl⟩) d_TD_needPerson_10 d_TD_needPerson_13 d_TD_needPerson_14 d_TD_needPerson_17 ⟨rfl, rfl, rfl⟩
  · refine z_iload_n hx 0 d_TD_needPerson_4 rfl ?_
    refine z_bipush (v := 100) hx d_TD_needPerson_5 rfl ?_
    refine z_icmp_lt (tgt := 18) hx d_TD_needPerson_7 (by decide) (fun h => absurd h (hv.resolve_left h1)) (fun _ => ?_)
    exact z_throw hx htr (ik := 86) (ic := 88) w_86 hq (Nat.le_refl _) (Nat.le_refl _) hNH (by rw [hrm]; exact ⟨Nat.le_of_ble_eq_true rfl, Nat.le_of_ble_eq_true rfl, Nat.le_of_ble_eq_true rfl, Nat.le_of_ble_eq_true rfl⟩) d_TD_needPerson_10 d_TD_needPerson_13 d_TD_needPerson_14 d_TD_needPerson_17 ⟨rfl, rfl, rfl⟩
set_option maxRecDepth 20000 in
theorem c_TD_needHolder {l : Launch} {D : va_G} {K : Nat → ClassId} {ad : Nat → Nat} {S : zSt} {k : Nat} (hk : k < 5) : zC l TB D zcls (ztyl K) y_TD_needHolder (.code y_TD_needHolder b_TD_needHolder 1 (none : Option FieldType)) (rmk 0 0) [.int (nI k)] ad (Lay K ad S) (zP K ad none S) := by
  refine zC.of (by decide +kernel) (Nat.le_of_ble_eq_true rfl) ?_
  intro x hx hr hml hnm hrm hq hNH
  show zV x ad (Lay K ad S) 0 0 [(0, .int (nI k))] 0 []
  refine z_iload_n hx 0 d_TD_needHolder_0 rfl ?_
  refine z_if_lt (tgt := 9) hx d_TD_needHolder_1 (by decide) (fun h => absurd h (nI_pos (by omega))) (fun _ => ?_)
  refine z_iload_n hx 0 d_TD_needHolder_4 rfl ?_
  refine z_iconst (v := 5) hx d_TD_needHolder_5 rfl ?_
  refine z_icmp_lt (tgt := 17) hx d_TD_needHolder_6 (by decide) (fun _ => ?_) (fun h => absurd (nI_ltL 5 rfl hk (by decide)) h)
  exact z_vret hx hr hq (Nat.le_refl _) (Nat.le_refl _) d_TD_needHolder_17 ⟨rfl, rfl, rfl⟩
set_option maxRecDepth 20000 in
theorem x_TD_needHolder {l : Launch} (htr : l.stackTraces = false) {D : va_G} {K : Nat → ClassId} {ad : Nat → Nat} {S : zSt} {v : Int32} (hv : v < 0 ∨ ¬ v < 5) : zC l TB D zcls (ztyl K) y_TD_needHolder (.code y_TD_needHolder b_TD_needHolder 1 (none : Option FieldType)) (rmx 6 90) [.int v] ad (Lay K ad S) (zX0 K ad "java/lang/IndexOutOfBoundsException" S) := by
  refine zC.of (by decide +kernel) (Nat.le_of_ble_eq_true rfl) ?_
  intro x hx hr hml hnm hrm hq hNH
  show zV x ad (Lay K ad S) 0 0 [(0, .int v)] 0 []
  refine z_iload_n hx 0 d_TD_needHolder_0 rfl ?_
  refine z_if_lt (tgt := 9) hx d_TD_needHolder_1 (by decide) (fun h1 => ?_) (fun h1 => ?_)
  · exact z_throw hx htr (ik := 86) (ic := 88) w_86 hq (Nat.le_refl _) (Nat.le_refl _) hNH (by rw [hrm]; exact ⟨Nat.le_of_ble_eq_true rfl, Nat.le_of_ble_eq_true rfl, Nat.le_of_ble_eq_true rfl, Nat.le_of_ble_eq_true rfl⟩) d_TD_needHolder_9 d_TD_needHolder_12 d_TD_needHolder_13 d_TD_needHolder_16 ⟨rfl, rfl, rfl⟩
  · refine z_iload_n hx 0 d_TD_needHolder_4 rfl ?_
    refine z_iconst (v := 5) hx d_TD_needHolder_5 rfl ?_
    refine z_icmp_lt (tgt := 17) hx d_TD_needHolder_6 (by decide) (fun h => absurd h (hv.resolve_left h1)) (fun _ => ?_)
    exact z_throw hx htr (ik := 86) (ic := 88) w_86 hq (Nat.le_refl _) (Nat.le_refl _) hNH (by rw [hrm]; exact ⟨Nat.le_of_ble_eq_true rfl, Nat.le_of_ble_eq_true rfl, Nat.le_of_ble_eq_true rfl, Nat.le_of_ble_eq_true rfl⟩) d_TD_needHolder_9 d_TD_needHolder_12 d_TD_needHolder_13 d_TD_needHolder_16 ⟨rfl, rfl, rfl⟩
set_option maxRecDepth 20000 in
theorem c_TD_siteAt {l : Launch} {D : va_G} {K : Nat → ClassId} {ad : Nat → Nat} {S : zSt} {i : Nat} (hi : i < 10) (ho : S.2.2 9 i ≠ 0) : zC l TB D zcls (ztyl K) y_TD_siteAt (.code y_TD_siteAt b_TD_siteAt 2 (some (FieldType.object "TrialDesk$Site"))) (rmk 0 0) [.ref (ad 0), .int (nI i)] ad (Lay K ad S) (zP K ad (some (.ref (ad (100 + i)))) S) := by
  refine zC.of (by decide +kernel) (Nat.le_of_ble_eq_true rfl) ?_
  intro x hx hr hml hnm hrm hq hNH
  show zV x ad (Lay K ad S) 0 0 [(0, .ref (ad 0)), (1, .int (nI i))] 0 []
  refine z_iload_n hx 1 d_TD_siteAt_0 rfl ?_
  refine z_if_lt (tgt := 22) hx d_TD_siteAt_1 (by decide) (fun h => absurd h (nI_pos (by omega))) (fun _ => ?_)
  refine z_iload_n hx 1 d_TD_siteAt_4 rfl ?_
  refine z_aload_n hx 0 d_TD_siteAt_5 rfl ?_
  refine z_get hx k_TD (t := 0) rfl 3 (by decide) a1_129 rfl d_TD_siteAt_6 ?_
  refine z_alen hx 3 rfl (t := 9) rfl (v := 10) rfl d_TD_siteAt_9 ?_
  refine z_icmp_ge (tgt := 22) hx d_TD_siteAt_10 (by decide) (fun h => absurd h (nI_nleL 10 rfl (by omega) (by decide))) (fun _ => ?_)
  refine z_aload_n hx 0 d_TD_siteAt_13 rfl ?_
  refine z_get hx k_TD (t := 0) rfl 3 (by decide) a1_129 rfl d_TD_siteAt_14 ?_
  refine z_iload_n hx 1 d_TD_siteAt_17 rfl ?_
  refine z_aaldK hx 3 rfl (t := 9) rfl (k := i) (by omega) (by decide) (v := .ref (ad (100 + i))) (by show va_rf (if S.2.2 9 i = 0 then none else some (ad (100 + i))) = _; rw [if_neg ho]; rfl) d_TD_siteAt_18 ?_
  refine z_ifnonnullR (tgt := 30) hx d_TD_siteAt_19 (by decide) ?_
  refine z_aload_n hx 0 d_TD_siteAt_30 rfl ?_
  refine z_get hx k_TD (t := 0) rfl 3 (by decide) a1_129 rfl d_TD_siteAt_31 ?_
  refine z_iload_n hx 1 d_TD_siteAt_34 rfl ?_
  refine z_aaldK hx 3 rfl (t := 9) rfl (k := i) (by omega) (by decide) (v := .ref (ad (100 + i))) (by show va_rf (if S.2.2 9 i = 0 then none else some (ad (100 + i))) = _; rw [if_neg ho]; rfl) d_TD_siteAt_35 ?_
  exact z_aret hx hr (Or.inl ⟨_, rfl⟩) hq (Nat.le_refl _) (Nat.le_refl _) d_TD_siteAt_36 ⟨rfl, rfl, rfl⟩
set_option maxRecDepth 20000 in
theorem x_TD_siteAt {l : Launch} (htr : l.stackTraces = false) {D : va_G} {K : Nat → ClassId} {ad : Nat → Nat} {S : zSt} {v : Int32} (hv : v < 0 ∨ 10 ≤ v) : zC l TB D zcls (ztyl K) y_TD_siteAt (.code y_TD_siteAt b_TD_siteAt 2 (some (FieldType.object "TrialDesk$Site"))) (rmx 6 90) [.ref (ad 0), .int v] ad (Lay K ad S) (zX0 K ad "java/lang/IndexOutOfBoundsException" S) := by
  refine zC.of (by decide +kernel) (Nat.le_of_ble_eq_true rfl) ?_
  intro x hx hr hml hnm hrm hq hNH
  show zV x ad (Lay K ad S) 0 0 [(0, .ref (ad 0)), (1, .int v)] 0 []
  refine z_iload_n hx 1 d_TD_siteAt_0 rfl ?_
  refine z_if_lt (tgt := 22) hx d_TD_siteAt_1 (by decide) (fun h1 => ?_) (fun h1 => ?_)
  · exact z_throw hx htr (ik := 86) (ic := 88) w_86 hq (Nat.le_refl _) (Nat.le_refl _) hNH (by rw [hrm]; exact ⟨Nat.le_of_ble_eq_true rfl, Nat.le_of_ble_eq_true rfl, Nat.le_of_ble_eq_true rfl, Nat.le_of_ble_eq_true rfl⟩) d_TD_siteAt_22 d_TD_siteAt_25 d_TD_siteAt_26 d_TD_siteAt_29 ⟨rfl, rfl, rfl⟩
  · refine z_iload_n hx 1 d_TD_siteAt_4 rfl ?_
    refine z_aload_n hx 0 d_TD_siteAt_5 rfl ?_
    refine z_get hx k_TD (t := 0) rfl 3 (by decide) a1_129 rfl d_TD_siteAt_6 ?_
    refine z_alen hx 3 rfl (t := 9) rfl (v := 10) rfl d_TD_siteAt_9 ?_
    refine z_icmp_ge (tgt := 22) hx d_TD_siteAt_10 (by decide) (fun _ => ?_) (fun h => absurd (hv.resolve_left h1) h)
    exact z_throw hx htr (ik := 86) (ic := 88) w_86 hq (Nat.le_refl _) (Nat.le_refl _) hNH (by rw [hrm]; exact ⟨Nat.le_of_ble_eq_true rfl, Nat.le_of_ble_eq_true rfl, Nat.le_of_ble_eq_true rfl, Nat.le_of_ble_eq_true rfl⟩) d_TD_siteAt_22 d_TD_siteAt_25 d_TD_siteAt_26 d_TD_siteAt_29 ⟨rfl, rfl, rfl⟩
set_option maxRecDepth 20000 in
theorem x_TD_siteAt_none {l : Launch} (htr : l.stackTraces = false) {D : va_G} {K : Nat → ClassId} {ad : Nat → Nat} {S : zSt} {i : Nat} (hi : i < 10) (ho : S.2.2 9 i = 0) : zC l TB D zcls (ztyl K) y_TD_siteAt (.code y_TD_siteAt b_TD_siteAt 2 (some (FieldType.object "TrialDesk$Site"))) (rmx 6 90) [.ref (ad 0), .int (nI i)] ad (Lay K ad S) (zX0 K ad "java/lang/IndexOutOfBoundsException" S) := by
  refine zC.of (by decide +kernel) (Nat.le_of_ble_eq_true rfl) ?_
  intro x hx hr hml hnm hrm hq hNH
  show zV x ad (Lay K ad S) 0 0 [(0, .ref (ad 0)), (1, .int (nI i))] 0 []
  refine z_iload_n hx 1 d_TD_siteAt_0 rfl ?_
  refine z_if_lt (tgt := 22) hx d_TD_siteAt_1 (by decide) (fun h => absurd h (nI_pos (by omega))) (fun _ => ?_)
  refine z_iload_n hx 1 d_TD_siteAt_4 rfl ?_
  refine z_aload_n hx 0 d_TD_siteAt_5 rfl ?_
  refine z_get hx k_TD (t := 0) rfl 3 (by decide) a1_129 rfl d_TD_siteAt_6 ?_
  refine z_alen hx 3 rfl (t := 9) rfl (v := 10) rfl d_TD_siteAt_9 ?_
  refine z_icmp_ge (tgt := 22) hx d_TD_siteAt_10 (by decide) (fun h => absurd h (nI_nleL 10 rfl (by omega) (by decide))) (fun _ => ?_)
  refine z_aload_n hx 0 d_TD_siteAt_13 rfl ?_
  refine z_get hx k_TD (t := 0) rfl 3 (by decide) a1_129 rfl d_TD_siteAt_14 ?_
  refine z_iload_n hx 1 d_TD_siteAt_17 rfl ?_
  refine z_aaldK hx 3 rfl (t := 9) rfl (k := i) (by omega) (by decide) (v := .null) (by show va_rf (if S.2.2 9 i = 0 then none else some (ad (100 + i))) = _; rw [if_pos ho]; rfl) d_TD_siteAt_18 ?_
  refine z_ifnonnullN hx d_TD_siteAt_19 ?_
  exact z_throw hx htr (ik := 86) (ic := 88) w_86 hq (Nat.le_refl _) (Nat.le_refl _) hNH (by rw [hrm]; exact ⟨Nat.le_of_ble_eq_true rfl, Nat.le_of_ble_eq_true rfl, Nat.le_of_ble_eq_true rfl, Nat.le_of_ble_eq_true rfl⟩) d_TD_siteAt_22 d_TD_siteAt_25 d_TD_siteAt_26 d_TD_siteAt_29 ⟨rfl, rfl, rfl⟩
set_option maxRecDepth 20000 in
theorem c_TD_stratumAt {l : Launch} {D : va_G} {K : Nat → ClassId} {ad : Nat → Nat} {S : zSt} {s : Nat} (hs : s < 8) : zC l TB D zcls (ztyl K) y_TD_stratumAt (.code y_TD_stratumAt b_TD_stratumAt 2 (some (FieldType.object "TrialDesk$Stratum"))) (rmk 0 0) [.ref (ad 0), .int (nI s)] ad (Lay K ad S) (zP K ad (some (.ref (ad (40 + s)))) S) := by
  refine zC.of (by decide +kernel) (Nat.le_of_ble_eq_true rfl) ?_
  intro x hx hr hml hnm hrm hq hNH
  show zV x ad (Lay K ad S) 0 0 [(0, .ref (ad 0)), (1, .int (nI s))] 0 []
  refine z_iload_n hx 1 d_TD_stratumAt_0 rfl ?_
  refine z_if_lt (tgt := 22) hx d_TD_stratumAt_1 (by decide) (fun h => absurd h (nI_pos (by omega))) (fun _ => ?_)
  refine z_iload_n hx 1 d_TD_stratumAt_4 rfl ?_
  refine z_aload_n hx 0 d_TD_stratumAt_5 rfl ?_
  refine z_get hx k_TD (t := 0) rfl 4 (by decide) a1_130 rfl d_TD_stratumAt_6 ?_
  refine z_alen hx 4 rfl (t := 10) rfl (v := 8) rfl d_TD_stratumAt_9 ?_
  refine z_icmp_ge (tgt := 22) hx d_TD_stratumAt_10 (by decide) (fun h => absurd h (nI_nleL 8 rfl (by omega) (by decide))) (fun _ => ?_)
  refine z_aload_n hx 0 d_TD_stratumAt_13 rfl ?_
  refine z_get hx k_TD (t := 0) rfl 4 (by decide) a1_130 rfl d_TD_stratumAt_14 ?_
  refine z_iload_n hx 1 d_TD_stratumAt_17 rfl ?_
  refine z_aaldK hx 4 rfl (t := 10) rfl (k := s) (by omega) (by decide) (v := .ref (ad (40 + s))) rfl d_TD_stratumAt_18 ?_
  refine z_ifnonnullR (tgt := 30) hx d_TD_stratumAt_19 (by decide) ?_
  refine z_aload_n hx 0 d_TD_stratumAt_30 rfl ?_
  refine z_get hx k_TD (t := 0) rfl 4 (by decide) a1_130 rfl d_TD_stratumAt_31 ?_
  refine z_iload_n hx 1 d_TD_stratumAt_34 rfl ?_
  refine z_aaldK hx 4 rfl (t := 10) rfl (k := s) (by omega) (by decide) (v := .ref (ad (40 + s))) rfl d_TD_stratumAt_35 ?_
  exact z_aret hx hr (Or.inl ⟨_, rfl⟩) hq (Nat.le_refl _) (Nat.le_refl _) d_TD_stratumAt_36 ⟨rfl, rfl, rfl⟩
set_option maxRecDepth 20000 in
theorem x_TD_stratumAt {l : Launch} (htr : l.stackTraces = false) {D : va_G} {K : Nat → ClassId} {ad : Nat → Nat} {S : zSt} {v : Int32} (hv : v < 0 ∨ 8 ≤ v) : zC l TB D zcls (ztyl K) y_TD_stratumAt (.code y_TD_stratumAt b_TD_stratumAt 2 (some (FieldType.object "TrialDesk$Stratum"))) (rmx 6 90) [.ref (ad 0), .int v] ad (Lay K ad S) (zX0 K ad "java/lang/IndexOutOfBoundsException" S) := by
  refine zC.of (by decide +kernel) (Nat.le_of_ble_eq_true rfl) ?_
  intro x hx hr hml hnm hrm hq hNH
  show zV x ad (Lay K ad S) 0 0 [(0, .ref (ad 0)), (1, .int v)] 0 []
  refine z_iload_n hx 1 d_TD_stratumAt_0 rfl ?_
  refine z_if_lt (tgt := 22) hx d_TD_stratumAt_1 (by decide) (fun h1 => ?_) (fun h1 => ?_)
  · exact z_throw hx htr (ik := 86) (ic := 88) w_86 hq (Nat.le_refl _) (Nat.le_refl _) hNH (by rw [hrm]; exact ⟨Nat.le_of_ble_eq_true rfl, Nat.le_of_ble_eq_true rfl, Nat.le_of_ble_eq_true rfl, Nat.le_of_ble_eq_true rfl⟩) d_TD_stratumAt_22 d_TD_stratumAt_25 d_TD_stratumAt_26 d_TD_stratumAt_29 ⟨rfl, rfl, rfl⟩
  · refine z_iload_n hx 1 d_TD_stratumAt_4 rfl ?_
    refine z_aload_n hx 0 d_TD_stratumAt_5 rfl ?_
    refine z_get hx k_TD (t := 0) rfl 4 (by decide) a1_130 rfl d_TD_stratumAt_6 ?_
    refine z_alen hx 4 rfl (t := 10) rfl (v := 8) rfl d_TD_stratumAt_9 ?_
    refine z_icmp_ge (tgt := 22) hx d_TD_stratumAt_10 (by decide) (fun _ => ?_) (fun h => absurd (hv.resolve_left h1) h)
    exact z_throw hx htr (ik := 86) (ic := 88) w_86 hq (Nat.le_refl _) (Nat.le_refl _) hNH (by rw [hrm]; exact ⟨Nat.le_of_ble_eq_true rfl, Nat.le_of_ble_eq_true rfl, Nat.le_of_ble_eq_true rfl, Nat.le_of_ble_eq_true rfl⟩) d_TD_stratumAt_22 d_TD_stratumAt_25 d_TD_stratumAt_26 d_TD_stratumAt_29 ⟨rfl, rfl, rfl⟩
set_option maxRecDepth 20000 in
theorem c_TD_needArm {l : Launch} {D : va_G} {K : Nat → ClassId} {ad : Nat → Nat} {S : zSt} {v : Int32} (h0 : ¬ v < 0) (hv : v < (if S.2.2 1 1 = 0 then 4 else S.2.2 1 1)) : zC l TB D zcls (ztyl K) y_TD_needArm (.code y_TD_needArm b_TD_needArm 3 (none : Option FieldType)) (rmk 0 0) [.ref (ad 0), .int v] ad (Lay K ad S) (zP K ad none S) := by
  refine zC.of (by decide +kernel) (Nat.le_of_ble_eq_true rfl) ?_
  intro x hx hr hml hnm hrm hq hNH
  show zV x ad (Lay K ad S) 0 0 [(0, .ref (ad 0)), (1, .int v)] 0 []
  refine z_aload_n hx 0 d_TD_needArm_0 rfl ?_
  refine z_get hx k_TD (t := 0) rfl 0 (by decide) a1_126 rfl d_TD_needArm_1 ?_
  refine z_getN hx k_Pl (t := 1) rfl 1 (by decide) a1_36 rfl d_TD_needArm_4 ?_
  refine z_if_ne (tgt := 14) hx d_TD_needArm_7 (by decide) (fun h1 => ?_) (fun h1 => ?_)
  · refine z_aload_n hx 0 d_TD_needArm_14 rfl ?_
    refine z_get hx k_TD (t := 0) rfl 0 (by decide) a1_126 rfl d_TD_needArm_15 ?_
    refine z_getN hx k_Pl (t := 1) rfl 1 (by decide) a1_36 rfl d_TD_needArm_18 ?_
    refine z_istore_n hx [(2, .int (S.2.2 1 1)), (0, .ref (ad 0)), (1, .int v)] d_TD_needArm_21 rfl (zN hml (by decide)) rfl ?_
    refine z_iload_n hx 2 d_TD_needArm_22 rfl ?_
    refine z_if_lt (tgt := 31) hx d_TD_needArm_23 (by decide) (fun h => absurd h h0) (fun _ => ?_)
    refine z_iload_n hx 2 d_TD_needArm_26 rfl ?_
    refine z_iload_n hx 0 d_TD_needArm_27 rfl ?_
    refine z_icmp_lt (tgt := 39) hx d_TD_needArm_28 (by decide) (fun _ => ?_) (fun h => absurd (by rwa [if_neg h1] at hv) h)
    exact z_vret hx hr hq (Nat.le_refl _) (Nat.le_refl _) d_TD_needArm_39 ⟨rfl, rfl, rfl⟩
  · refine z_iconst (v := 4) hx d_TD_needArm_10 rfl ?_
    refine z_goto (tgt := 21) hx d_TD_needArm_11 (by decide) ?_
    refine z_istore_n hx [(2, .int 4), (0, .ref (ad 0)), (1, .int v)] d_TD_needArm_21 rfl (zN hml (by decide)) rfl ?_
    refine z_iload_n hx 2 d_TD_needArm_22 rfl ?_
    refine z_if_lt (tgt := 31) hx d_TD_needArm_23 (by decide) (fun h => absurd h h0) (fun _ => ?_)
    refine z_iload_n hx 2 d_TD_needArm_26 rfl ?_
    refine z_iload_n hx 0 d_TD_needArm_27 rfl ?_
    refine z_icmp_lt (tgt := 39) hx d_TD_needArm_28 (by decide) (fun _ => ?_) (fun h => absurd (by rwa [if_pos h1] at hv) h)
    exact z_vret hx hr hq (Nat.le_refl _) (Nat.le_refl _) d_TD_needArm_39 ⟨rfl, rfl, rfl⟩
set_option maxRecDepth 20000 in
theorem x_TD_needArm {l : Launch} (htr : l.stackTraces = false) {D : va_G} {K : Nat → ClassId} {ad : Nat → Nat} {S : zSt} {v : Int32} (hv : v < 0 ∨ ¬ v < (if S.2.2 1 1 = 0 then 4 else S.2.2 1 1)) : zC l TB D zcls (ztyl K) y_TD_needArm (.code y_TD_needArm b_TD_needArm 3 (none : Option FieldType)) (rmx 6 90) [.ref (ad 0), .int v] ad (Lay K ad S) (zX0 K ad "java/lang/IndexOutOfBoundsException" S) := by
  refine zC.of (by decide +kernel) (Nat.le_of_ble_eq_true rfl) ?_
  intro x hx hr hml hnm hrm hq hNH
  show zV x ad (Lay K ad S) 0 0 [(0, .ref (ad 0)), (1, .int v)] 0 []
  refine z_aload_n hx 0 d_TD_needArm_0 rfl ?_
  refine z_get hx k_TD (t := 0) rfl 0 (by decide) a1_126 rfl d_TD_needArm_1 ?_
  refine z_getN hx k_Pl (t := 1) rfl 1 (by decide) a1_36 rfl d_TD_needArm_4 ?_
  refine z_if_ne (tgt := 14) hx d_TD_needArm_7 (by decide) (fun h1 => ?_) (fun h1 => ?_)
  · refine z_aload_n hx 0 d_TD_needArm_14 rfl ?_
    refine z_get hx k_TD (t := 0) rfl 0 (by decide) a1_126 rfl d_TD_needArm_15 ?_
    refine z_getN hx k_Pl (t := 1) rfl 1 (by decide) a1_36 rfl d_TD_needArm_18 ?_
    refine z_istore_n hx [(2, .int (S.2.2 1 1)), (0, .ref (ad 0)), (1, .int v)] d_TD_needArm_21 rfl (zN hml (by decide)) rfl ?_
    refine z_iload_n hx 2 d_TD_needArm_22 rfl ?_
    refine z_if_lt (tgt := 31) hx d_TD_needArm_23 (by decide) (fun h2 => ?_) (fun h2 => ?_)
    · exact z_throw hx htr (ik := 86) (ic := 88) w_86 hq (Nat.le_refl _) (Nat.le_refl _) hNH (by rw [hrm]; exact ⟨Nat.le_of_ble_eq_true rfl, Nat.le_of_ble_eq_true rfl, Nat.le_of_ble_eq_true rfl, Nat.le_of_ble_eq_true rfl⟩) d_TD_needArm_31 d_TD_needArm_34 d_TD_needArm_35 d_TD_needArm_38 ⟨rfl, rfl, rfl⟩
    · refine z_iload_n hx 2 d_TD_needArm_26 rfl ?_
      refine z_iload_n hx 0 d_TD_needArm_27 rfl ?_
      refine z_icmp_lt (tgt := 39) hx d_TD_needArm_28 (by decide) (fun h => absurd h (by have := hv.resolve_left h2; rwa [if_neg h1] at this)) (fun _ => ?_)
      exact z_throw hx htr (ik := 86) (ic := 88) w_86 hq (Nat.le_refl _) (Nat.le_refl _) hNH (by rw [hrm]; exact ⟨Nat.le_of_ble_eq_true rfl, Nat.le_of_ble_eq_true rfl, Nat.le_of_ble_eq_true rfl, Nat.le_of_ble_eq_true rfl⟩) d_TD_needArm_31 d_TD_needArm_34 d_TD_needArm_35 d_TD_needArm_38 ⟨rfl, rfl, rfl⟩
  · refine z_iconst (v := 4) hx d_TD_needArm_10 rfl ?_
    refine z_goto (tgt := 21) hx d_TD_needArm_11 (by decide) ?_
    refine z_istore_n hx [(2, .int 4), (0, .ref (ad 0)), (1, .int v)] d_TD_needArm_21 rfl (zN hml (by decide)) rfl ?_
    refine z_iload_n hx 2 d_TD_needArm_22 rfl ?_
    refine z_if_lt (tgt := 31) hx d_TD_needArm_23 (by decide) (fun h3 => ?_) (fun h3 => ?_)
    · exact z_throw hx htr (ik := 86) (ic := 88) w_86 hq (Nat.le_refl _) (Nat.le_refl _) hNH (by rw [hrm]; exact ⟨Nat.le_of_ble_eq_true rfl, Nat.le_of_ble_eq_true rfl, Nat.le_of_ble_eq_true rfl, Nat.le_of_ble_eq_true rfl⟩) d_TD_needArm_31 d_TD_needArm_34 d_TD_needArm_35 d_TD_needArm_38 ⟨rfl, rfl, rfl⟩
    · refine z_iload_n hx 2 d_TD_needArm_26 rfl ?_
      refine z_iload_n hx 0 d_TD_needArm_27 rfl ?_
      refine z_icmp_lt (tgt := 39) hx d_TD_needArm_28 (by decide) (fun h => absurd h (by have := hv.resolve_left h3; rwa [if_pos h1] at this)) (fun _ => ?_)
      exact z_throw hx htr (ik := 86) (ic := 88) w_86 hq (Nat.le_refl _) (Nat.le_refl _) hNH (by rw [hrm]; exact ⟨Nat.le_of_ble_eq_true rfl, Nat.le_of_ble_eq_true rfl, Nat.le_of_ble_eq_true rfl, Nat.le_of_ble_eq_true rfl⟩) d_TD_needArm_31 d_TD_needArm_34 d_TD_needArm_35 d_TD_needArm_38 ⟨rfl, rfl, rfl⟩
set_option maxRecDepth 20000 in
theorem c_TD_needPlan {l : Launch} {D : va_G} {K : Nat → ClassId} {ad : Nat → Nat} {S : zSt} (hpl : S.2.2 1 1 ≠ 0) : zC l TB D zcls (ztyl K) y_TD_needPlan (.code y_TD_needPlan b_TD_needPlan 1 (none : Option FieldType)) (rmk 0 0) [.ref (ad 0)] ad (Lay K ad S) (zP K ad none S) := by
  refine zC.of (by decide +kernel) (Nat.le_of_ble_eq_true rfl) ?_
  intro x hx hr hml hnm hrm hq hNH
  show zV x ad (Lay K ad S) 0 0 [(0, .ref (ad 0))] 0 []
  refine z_aload_n hx 0 d_TD_needPlan_0 rfl ?_
  refine z_get hx k_TD (t := 0) rfl 0 (by decide) a1_126 rfl d_TD_needPlan_1 ?_
  refine z_getN hx k_Pl (t := 1) rfl 1 (by decide) a1_36 rfl d_TD_needPlan_4 ?_
  refine z_if_ne (tgt := 18) hx d_TD_needPlan_7 (by decide) (fun _ => ?_) (fun h => absurd h hpl)
  exact z_vret hx hr hq (Nat.le_refl _) (Nat.le_refl _) d_TD_needPlan_18 ⟨rfl, rfl, rfl⟩
set_option maxRecDepth 20000 in
theorem x_TD_needPlan {l : Launch} (htr : l.stackTraces = false) {D : va_G} {K : Nat → ClassId} {ad : Nat → Nat} {S : zSt} (hpl : S.2.2 1 1 = 0) : zC l TB D zcls (ztyl K) y_TD_needPlan (.code y_TD_needPlan b_TD_needPlan 1 (none : Option FieldType)) (rmx 6 90) [.ref (ad 0)] ad (Lay K ad S) (zX0 K ad "java/lang/IllegalStateException" S) := by
  refine zC.of (by decide +kernel) (Nat.le_of_ble_eq_true rfl) ?_
  intro x hx hr hml hnm hrm hq hNH
  show zV x ad (Lay K ad S) 0 0 [(0, .ref (ad 0))] 0 []
  refine z_aload_n hx 0 d_TD_needPlan_0 rfl ?_
  refine z_get hx k_TD (t := 0) rfl 0 (by decide) a1_126 rfl d_TD_needPlan_1 ?_
  refine z_getN hx k_Pl (t := 1) rfl 1 (by decide) a1_36 rfl d_TD_needPlan_4 ?_
  refine z_if_ne (tgt := 18) hx d_TD_needPlan_7 (by decide) (fun h => absurd hpl h) (fun _ => ?_)
  exact z_throw hx htr (ik := 64) (ic := 66) w_64 hq (Nat.le_refl _) (Nat.le_refl _) hNH (by rw [hrm]; exact ⟨Nat.le_of_ble_eq_true rfl, Nat.le_of_ble_eq_true rfl, Nat.le_of_ble_eq_true rfl, Nat.le_of_ble_eq_true rfl⟩) d_TD_needPlan_10 d_TD_needPlan_13 d_TD_needPlan_14 d_TD_needPlan_17 ⟨rfl, rfl, rfl⟩
def isW (a b : Int32) : Int32 := if a < b then 0 else if 3 < a then 0 else 1
def areW (a b c d : Int32) : Int32 := if isW a 1 = 0 then 0 else if isW b 1 = 0 then 0 else if isW c 0 = 0 then 0 else if isW d 0 = 0 then 0 else if c = 0 then (if d = 0 then 1 else 0) else 1
def isZ (n t : Int32) : Int32 := if n < 1 then 0 else if 24 < n then 0 else if t < 1 then 0 else if n - n / t * t = 0 then 1 else 0
set_option maxRecDepth 20000 in
theorem c_TD_isWeight {l : Launch} {D : va_G} {K : Nat → ClassId} {ad : Nat → Nat} {S : zSt} {a b : Int32} : zC l TB D zcls (ztyl K) y_TD_isWeight (.code y_TD_isWeight b_TD_isWeight 2 (some FieldType.boolean)) (rmk 0 0) [.int a, .int b] ad (Lay K ad S) (zP K ad (some (.int (isW a b))) S) := by
  refine zC.of (by decide +kernel) (Nat.le_of_ble_eq_true rfl) ?_
  intro x hx hr hml hnm hrm hq hNH
  show zV x ad (Lay K ad S) 0 0 [(0, .int a), (1, .int b)] 0 []
  refine z_iload_n hx 0 d_TD_isWeight_0 rfl ?_
  refine z_iload_n hx 1 d_TD_isWeight_1 rfl ?_
  refine z_icmp_lt (tgt := 14) hx d_TD_isWeight_2 (by decide) (fun h1 => ?_) (fun h1 => ?_)
  · refine z_iconst (v := 0) hx d_TD_isWeight_14 rfl ?_
    exact z_iret hx hr rfl hq (Nat.le_refl _) (Nat.le_refl _) d_TD_isWeight_15 ⟨by simp [isW, h1], rfl, by simp [isW, h1]⟩
  · refine z_iload_n hx 0 d_TD_isWeight_5 rfl ?_
    refine z_iconst (v := 3) hx d_TD_isWeight_6 rfl ?_
    refine z_icmp_gt (tgt := 14) hx d_TD_isWeight_7 (by decide) (fun h2 => ?_) (fun h2 => ?_)
    · refine z_iconst (v := 0) hx d_TD_isWeight_14 rfl ?_
      exact z_iret hx hr rfl hq (Nat.le_refl _) (Nat.le_refl _) d_TD_isWeight_15 ⟨by simp [isW, h1, h2], rfl, by simp [isW, h1, h2]⟩
    · refine z_iconst (v := 1) hx d_TD_isWeight_10 rfl ?_
      refine z_goto (tgt := 15) hx d_TD_isWeight_11 (by decide) ?_
      exact z_iret hx hr rfl hq (Nat.le_refl _) (Nat.le_refl _) d_TD_isWeight_15 ⟨by simp [isW, h1, h2], rfl, by simp [isW, h1, h2]⟩
set_option maxRecDepth 20000 in
theorem c_TD_areWeights {l : Launch} {D : va_G} {K : Nat → ClassId} {ad : Nat → Nat} {S : zSt} {a b c d : Int32} : zC l TB D zcls (ztyl K) y_TD_areWeights (.code y_TD_areWeights b_TD_areWeights 5 (some FieldType.boolean)) (rmk 1 21) [.int a, .int b, .int c, .int d] ad (Lay K ad S) (zP K ad (some (.int (areW a b c d))) S) := by
  refine zC.of (by decide +kernel) (Nat.le_of_ble_eq_true rfl) ?_
  intro x hx hr hml hnm hrm hq hNH
  show zV x ad (Lay K ad S) 0 0 [(0, .int a), (1, .int b), (2, .int c), (3, .int d)] 0 []
  refine z_iload_n hx 0 d_TD_areWeights_0 rfl ?_
  refine z_iconst (v := 1) hx d_TD_areWeights_1 rfl ?_
  refine z_cS hx (c_TD_isWeight) ⟨a1_171, a1_173, a1_1, ⟨by decide +kernel, by decide +kernel⟩, fun sig h => by cases h; rfl⟩ a1_172 rfl rfl d_TD_areWeights_2 (by rw [hrm]; exact ⟨Nat.le_of_ble_eq_true rfl, Nat.le_of_ble_eq_true rfl, Nat.le_of_ble_eq_true rfl, Nat.le_of_ble_eq_true rfl⟩) ?_
  show zV x ad (Lay K ad S) _ _ _ 5 [.int (isW a 1)]
  refine z_if_eq (tgt := 36) hx d_TD_areWeights_5 (by decide) (fun h1 => ?_) (fun h1 => ?_)
  · refine z_iconst (v := 0) hx d_TD_areWeights_36 rfl ?_
    refine z_istore hx [(4, .int 0), (0, .int a), (1, .int b), (2, .int c), (3, .int d)] d_TD_areWeights_37 (zN hml (by decide)) rfl ?_
    refine z_iload hx 0 d_TD_areWeights_39 rfl ?_
    refine z_if_eq (tgt := 56) hx d_TD_areWeights_41 (by decide) (fun _ => ?_) (fun h => absurd (by decide) h)
    refine z_iconst (v := 0) hx d_TD_areWeights_56 rfl ?_
    exact z_iret hx hr rfl hq (Nat.le_refl _) (Nat.le_refl _) d_TD_areWeights_57 ⟨congrArg (fun z => Sum.inl (some (Value.int z))) (by unfold areW; (first | rw [if_pos h1] | rw [if_neg h1] | skip)), rfl, rfl⟩
  · refine z_iload_n hx 1 d_TD_areWeights_8 rfl ?_
    refine z_iconst (v := 1) hx d_TD_areWeights_9 rfl ?_
    refine z_cS hx (c_TD_isWeight) ⟨a1_171, a1_173, a1_1, ⟨by decide +kernel, by decide +kernel⟩, fun sig h => by cases h; rfl⟩ a1_172 rfl rfl d_TD_areWeights_10 (by rw [hrm]; exact ⟨Nat.le_of_ble_eq_true rfl, Nat.le_of_ble_eq_true rfl, Nat.le_of_ble_eq_true rfl, Nat.le_of_ble_eq_true rfl⟩) ?_
    show zV x ad (Lay K ad S) _ _ _ 13 [.int (isW b 1)]
    refine z_if_eq (tgt := 36) hx d_TD_areWeights_13 (by decide) (fun h2 => ?_) (fun h2 => ?_)
    · refine z_iconst (v := 0) hx d_TD_areWeights_36 rfl ?_
      refine z_istore hx [(4, .int 0), (0, .int a), (1, .int b), (2, .int c), (3, .int d)] d_TD_areWeights_37 (zN hml (by decide)) rfl ?_
      refine z_iload hx 0 d_TD_areWeights_39 rfl ?_
      refine z_if_eq (tgt := 56) hx d_TD_areWeights_41 (by decide) (fun _ => ?_) (fun h => absurd (by decide) h)
      refine z_iconst (v := 0) hx d_TD_areWeights_56 rfl ?_
      exact z_iret hx hr rfl hq (Nat.le_refl _) (Nat.le_refl _) d_TD_areWeights_57 ⟨congrArg (fun z => Sum.inl (some (Value.int z))) (by unfold areW; (first | rw [if_pos h1] | rw [if_neg h1] | skip); (first | rw [if_pos h2] | rw [if_neg h2] | skip)), rfl, rfl⟩
    · refine z_iload_n hx 2 d_TD_areWeights_16 rfl ?_
      refine z_iconst (v := 0) hx d_TD_areWeights_17 rfl ?_
      refine z_cS hx (c_TD_isWeight) ⟨a1_171, a1_173, a1_1, ⟨by decide +kernel, by decide +kernel⟩, fun sig h => by cases h; rfl⟩ a1_172 rfl rfl d_TD_areWeights_18 (by rw [hrm]; exact ⟨Nat.le_of_ble_eq_true rfl, Nat.le_of_ble_eq_true rfl, Nat.le_of_ble_eq_true rfl, Nat.le_of_ble_eq_true rfl⟩) ?_
      show zV x ad (Lay K ad S) _ _ _ 21 [.int (isW c 0)]
      refine z_if_eq (tgt := 36) hx d_TD_areWeights_21 (by decide) (fun h3 => ?_) (fun h3 => ?_)
      · refine z_iconst (v := 0) hx d_TD_areWeights_36 rfl ?_
        refine z_istore hx [(4, .int 0), (0, .int a), (1, .int b), (2, .int c), (3, .int d)] d_TD_areWeights_37 (zN hml (by decide)) rfl ?_
        refine z_iload hx 0 d_TD_areWeights_39 rfl ?_
        refine z_if_eq (tgt := 56) hx d_TD_areWeights_41 (by decide) (fun _ => ?_) (fun h => absurd (by decide) h)
        refine z_iconst (v := 0) hx d_TD_areWeights_56 rfl ?_
        exact z_iret hx hr rfl hq (Nat.le_refl _) (Nat.le_refl _) d_TD_areWeights_57 ⟨congrArg (fun z => Sum.inl (some (Value.int z))) (by unfold areW; (first | rw [if_pos h1] | rw [if_neg h1] | skip); (first | rw [if_pos h2] | rw [if_neg h2] | skip); (first | rw [if_pos h3] | rw [if_neg h3] | skip)), rfl, rfl⟩
      · refine z_iload_n hx 3 d_TD_areWeights_24 rfl ?_
        refine z_iconst (v := 0) hx d_TD_areWeights_25 rfl ?_
        refine z_cS hx (c_TD_isWeight) ⟨a1_171, a1_173, a1_1, ⟨by decide +kernel, by decide +kernel⟩, fun sig h => by cases h; rfl⟩ a1_172 rfl rfl d_TD_areWeights_26 (by rw [hrm]; exact ⟨Nat.le_of_ble_eq_true rfl, Nat.le_of_ble_eq_true rfl, Nat.le_of_ble_eq_true rfl, Nat.le_of_ble_eq_true rfl⟩) ?_
        show zV x ad (Lay K ad S) _ _ _ 29 [.int (isW d 0)]
        refine z_if_eq (tgt := 36) hx d_TD_areWeights_29 (by decide) (fun h4 => ?_) (fun h4 => ?_)
        · refine z_iconst (v := 0) hx d_TD_areWeights_36 rfl ?_
          refine z_istore hx [(4, .int 0), (0, .int a), (1, .int b), (2, .int c), (3, .int d)] d_TD_areWeights_37 (zN hml (by decide)) rfl ?_
          refine z_iload hx 0 d_TD_areWeights_39 rfl ?_
          refine z_if_eq (tgt := 56) hx d_TD_areWeights_41 (by decide) (fun _ => ?_) (fun h => absurd (by decide) h)
          refine z_iconst (v := 0) hx d_TD_areWeights_56 rfl ?_
          exact z_iret hx hr rfl hq (Nat.le_refl _) (Nat.le_refl _) d_TD_areWeights_57 ⟨congrArg (fun z => Sum.inl (some (Value.int z))) (by unfold areW; (first | rw [if_pos h1] | rw [if_neg h1] | skip); (first | rw [if_pos h2] | rw [if_neg h2] | skip); (first | rw [if_pos h3] | rw [if_neg h3] | skip); (first | rw [if_pos h4] | rw [if_neg h4] | skip)), rfl, rfl⟩
        · refine z_iconst (v := 1) hx d_TD_areWeights_32 rfl ?_
          refine z_goto (tgt := 37) hx d_TD_areWeights_33 (by decide) ?_
          refine z_istore hx [(4, .int 1), (0, .int a), (1, .int b), (2, .int c), (3, .int d)] d_TD_areWeights_37 (zN hml (by decide)) rfl ?_
          refine z_iload hx 0 d_TD_areWeights_39 rfl ?_
          refine z_if_eq (tgt := 56) hx d_TD_areWeights_41 (by decide) (fun h => absurd h (by decide)) (fun _ => ?_)
          refine z_iload_n hx 3 d_TD_areWeights_44 rfl ?_
          refine z_if_ne (tgt := 52) hx d_TD_areWeights_45 (by decide) (fun h5 => ?_) (fun h5 => ?_)
          · refine z_iconst (v := 1) hx d_TD_areWeights_52 rfl ?_
            refine z_goto (tgt := 57) hx d_TD_areWeights_53 (by decide) ?_
            exact z_iret hx hr rfl hq (Nat.le_refl _) (Nat.le_refl _) d_TD_areWeights_57 ⟨congrArg (fun z => Sum.inl (some (Value.int z))) (by unfold areW; (first | rw [if_pos h1] | rw [if_neg h1] | skip); (first | rw [if_pos h2] | rw [if_neg h2] | skip); (first | rw [if_pos h3] | rw [if_neg h3] | skip); (first | rw [if_pos h4] | rw [if_neg h4] | skip); (first | rw [if_pos h5] | rw [if_neg h5] | skip)), rfl, rfl⟩
          · refine z_iload_n hx 4 d_TD_areWeights_48 rfl ?_
            refine z_if_ne (tgt := 56) hx d_TD_areWeights_49 (by decide) (fun h6 => ?_) (fun h6 => ?_)
            · refine z_iconst (v := 0) hx d_TD_areWeights_56 rfl ?_
              exact z_iret hx hr rfl hq (Nat.le_refl _) (Nat.le_refl _) d_TD_areWeights_57 ⟨congrArg (fun z => Sum.inl (some (Value.int z))) (by unfold areW; (first | rw [if_pos h1] | rw [if_neg h1] | skip); (first | rw [if_pos h2] | rw [if_neg h2] | skip); (first | rw [if_pos h3] | rw [if_neg h3] | skip); (first | rw [if_pos h4] | rw [if_neg h4] | skip); (first | rw [if_pos h5] | rw [if_neg h5] | skip); (first | rw [if_pos h6] | rw [if_neg h6] | skip)), rfl, rfl⟩
            · refine z_iconst (v := 1) hx d_TD_areWeights_52 rfl ?_
              refine z_goto (tgt := 57) hx d_TD_areWeights_53 (by decide) ?_
              exact z_iret hx hr rfl hq (Nat.le_refl _) (Nat.le_refl _) d_TD_areWeights_57 ⟨congrArg (fun z => Sum.inl (some (Value.int z))) (by unfold areW; (first | rw [if_pos h1] | rw [if_neg h1] | skip); (first | rw [if_pos h2] | rw [if_neg h2] | skip); (first | rw [if_pos h3] | rw [if_neg h3] | skip); (first | rw [if_pos h4] | rw [if_neg h4] | skip); (first | rw [if_pos h5] | rw [if_neg h5] | skip); (first | rw [if_pos h6] | rw [if_neg h6] | skip)), rfl, rfl⟩
set_option maxRecDepth 20000 in
theorem c_TD_isSize {l : Launch} {D : va_G} {K : Nat → ClassId} {ad : Nat → Nat} {S : zSt} {n t : Int32} : zC l TB D zcls (ztyl K) y_TD_isSize (.code y_TD_isSize b_TD_isSize 2 (some FieldType.boolean)) (rmk 0 0) [.int n, .int t] ad (Lay K ad S) (zP K ad (some (.int (isZ n t))) S) := by
  refine zC.of (by decide +kernel) (Nat.le_of_ble_eq_true rfl) ?_
  intro x hx hr hml hnm hrm hq hNH
  show zV x ad (Lay K ad S) 0 0 [(0, .int n), (1, .int t)] 0 []
  refine z_iload_n hx 0 d_TD_isSize_0 rfl ?_
  refine z_iconst (v := 1) hx d_TD_isSize_1 rfl ?_
  refine z_icmp_lt (tgt := 26) hx d_TD_isSize_2 (by decide) (fun h1 => ?_) (fun h1 => ?_)
  · refine z_iconst (v := 0) hx d_TD_isSize_26 rfl ?_
    exact z_iret hx hr rfl hq (Nat.le_refl _) (Nat.le_refl _) d_TD_isSize_27 ⟨by simp [isZ, h1], rfl, by simp [isZ, h1]⟩
  · refine z_iload_n hx 0 d_TD_isSize_5 rfl ?_
    refine z_bipush (v := 24) hx d_TD_isSize_6 rfl ?_
    refine z_icmp_gt (tgt := 26) hx d_TD_isSize_8 (by decide) (fun h2 => ?_) (fun h2 => ?_)
    · refine z_iconst (v := 0) hx d_TD_isSize_26 rfl ?_
      exact z_iret hx hr rfl hq (Nat.le_refl _) (Nat.le_refl _) d_TD_isSize_27 ⟨by simp [isZ, h1, h2], rfl, by simp [isZ, h1, h2]⟩
    · refine z_iload_n hx 1 d_TD_isSize_11 rfl ?_
      refine z_iconst (v := 1) hx d_TD_isSize_12 rfl ?_
      refine z_icmp_lt (tgt := 26) hx d_TD_isSize_13 (by decide) (fun h3 => ?_) (fun h3 => ?_)
      · refine z_iconst (v := 0) hx d_TD_isSize_26 rfl ?_
        exact z_iret hx hr rfl hq (Nat.le_refl _) (Nat.le_refl _) d_TD_isSize_27 ⟨by simp [isZ, h1, h2, h3], rfl, by simp [isZ, h1, h2, h3]⟩
      · refine z_iload_n hx 0 d_TD_isSize_16 rfl ?_
        refine z_iload_n hx 1 d_TD_isSize_17 rfl ?_
        refine z_irem hx d_TD_isSize_18 (fun h => by rw [h] at h3; exact h3 (by decide)) ?_
        refine z_if_ne (tgt := 26) hx d_TD_isSize_19 (by decide) (fun h4 => ?_) (fun h4 => ?_)
        · refine z_iconst (v := 0) hx d_TD_isSize_26 rfl ?_
          exact z_iret hx hr rfl hq (Nat.le_refl _) (Nat.le_refl _) d_TD_isSize_27 ⟨by simp [isZ, h1, h2, h3, h4], rfl, by simp [isZ, h1, h2, h3, h4]⟩
        · refine z_iconst (v := 1) hx d_TD_isSize_22 rfl ?_
          refine z_goto (tgt := 27) hx d_TD_isSize_23 (by decide) ?_
          exact z_iret hx hr rfl hq (Nat.le_refl _) (Nat.le_refl _) d_TD_isSize_27 ⟨by simp [isZ, h1, h2, h3, h4], rfl, by simp [isZ, h1, h2, h3, h4]⟩
set_option maxRecDepth 20000 in
theorem c_TD_isAnyBlockTaken {l : Launch} {D : va_G} {K : Nat → ClassId} {ad : Nat → Nat} {S : zSt}  : zC l TB D zcls (ztyl K) y_TD_isAnyBlockTaken (.code y_TD_isAnyBlockTaken b_TD_isAnyBlockTaken 2 (some FieldType.boolean)) (rmk 1 21) [.ref (ad 0)] ad (Lay K ad S) (zP K ad (some (.int (hasF (fun q => decide (¬ S.2.2 (40 + q) 6 ≤ 0)) 8 0))) S) := by
  refine zC.of (by decide +kernel) (Nat.le_of_ble_eq_true rfl) ?_
  intro x hx hr hml hnm hrm hq hNH
  have loop : ∀ (m k : Nat), k + m = 8 → hasF (fun q => decide (¬ S.2.2 (40 + q) 6 ≤ 0)) m k = hasF (fun q => decide (¬ S.2.2 (40 + q) 6 ≤ 0)) 8 0 → zV x ad (Lay K ad S) 0 0 [(1, .int (nI k)), (0, .ref (ad 0))] 2 [] := by
    intro m
    induction m with
    | zero =>
      intro k he hV
      have he0 : k = 8 := by omega
      refine z_iload_n hx 0 d_TD_isAnyBlockTaken_2 rfl ?_
      refine z_aload_n hx 1 d_TD_isAnyBlockTaken_3 rfl ?_
      refine z_get hx k_TD (t := 0) rfl 4 (by decide) a1_130 rfl d_TD_isAnyBlockTaken_4 ?_
      refine z_alen hx 4 rfl (t := 10) rfl (v := 8) rfl d_TD_isAnyBlockTaken_7 ?_
      refine z_icmp_ge (tgt := 30) hx d_TD_isAnyBlockTaken_8 (by decide) (fun _ => ?_) (fun h => absurd (nI_leL 8 rfl he0 (by decide)) h)
      refine z_iconst (v := 0) hx d_TD_isAnyBlockTaken_30 rfl ?_
      exact z_iret hx hr rfl hq (Nat.le_refl _) (Nat.le_refl _) d_TD_isAnyBlockTaken_31 ⟨by rw [← hV]; rfl, rfl, rfl⟩
    | succ m ih =>
      intro k he hV
      have hk : k < 8 := by omega
      refine z_iload_n hx 0 d_TD_isAnyBlockTaken_2 rfl ?_
      refine z_aload_n hx 1 d_TD_isAnyBlockTaken_3 rfl ?_
      refine z_get hx k_TD (t := 0) rfl 4 (by decide) a1_130 rfl d_TD_isAnyBlockTaken_4 ?_
      refine z_alen hx 4 rfl (t := 10) rfl (v := 8) rfl d_TD_isAnyBlockTaken_7 ?_
      refine z_icmp_ge (tgt := 30) hx d_TD_isAnyBlockTaken_8 (by decide) (fun h => absurd h (nI_nleL 8 rfl hk (by decide))) (fun _ => ?_)
      refine z_aload_n hx 1 d_TD_isAnyBlockTaken_11 rfl ?_
      refine z_iload_n hx 0 d_TD_isAnyBlockTaken_12 rfl ?_
      refine z_cV hx (c_TD_stratumAt hk) k_TD rfl ⟨a2_4, a2_7, a1_1, ⟨by decide +kernel, by decide +kernel⟩, fun sig h => by cases h; rfl⟩ a2_6 s_TD_stratumAt rfl rfl d_TD_isAnyBlockTaken_13 (by rw [hrm]; exact ⟨Nat.le_of_ble_eq_true rfl, Nat.le_of_ble_eq_true rfl, Nat.le_of_ble_eq_true rfl, Nat.le_of_ble_eq_true rfl⟩) ?_
      show zV x ad (Lay K ad S) _ _ _ 16 [.ref (ad (40 + k))]
      refine z_getN hx k_St (t := 40 + k) (Lay_St hk) 6 (by decide) a1_104 rfl d_TD_isAnyBlockTaken_16 ?_
      refine z_if_le (tgt := 24) hx d_TD_isAnyBlockTaken_19 (by decide) (fun h1 => ?_) (fun h1 => ?_)
      · refine z_iinc (v := nI (k + 1)) hx 0 [(1, .int (nI (k + 1))), (0, .ref (ad 0))] d_TD_isAnyBlockTaken_24 rfl (nI_1 k) (zN hml (by decide)) rfl ?_
        refine z_goto (tgt := 2) hx d_TD_isAnyBlockTaken_27 (by decide) ?_
        exact z_lv [0, 1] _ rfl (ih (k + 1) (by omega) (by rw [← hV, hasF, if_neg (by simpa using h1)]))
      · refine z_iconst (v := 1) hx d_TD_isAnyBlockTaken_22 rfl ?_
        exact z_iret hx hr rfl hq (Nat.le_refl _) (Nat.le_refl _) d_TD_isAnyBlockTaken_23 ⟨by rw [← hV]; rw [hasF, if_pos (by simpa using h1)], rfl, rfl⟩
  show zV x ad (Lay K ad S) 0 0 [(0, .ref (ad 0))] 0 []
  refine z_iconst (v := 0) hx d_TD_isAnyBlockTaken_0 rfl ?_
  refine z_top (b := nI 0) rfl ?_
  refine z_istore_n hx [(1, .int (nI 0)), (0, .ref (ad 0))] d_TD_isAnyBlockTaken_1 rfl (zN hml (by decide)) rfl ?_
  exact z_lv [0, 1] _ rfl (loop 8 0 (by omega) rfl)
end
