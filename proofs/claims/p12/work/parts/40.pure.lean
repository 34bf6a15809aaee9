/-! pure walks: the heap is the one at the start, nothing is written or made -/
def jp_C (X : jz_X) (nL : Nat) (cc : ByteArray) (own : String) (ret : Option FieldType) (rm0 : Room) (G : jz_G) (m : jz_M) : Prop := jz_C X nL cc own ret rm0 G ∧ va_P (gz_D G) (gz_cl G) (jz_w G m) (xz_s X).heap
def jp_J (X : jz_X) (nL : Nat) (Q : State → Prop) (lv : List (Nat × Value)) (pc : Nat) (st : List Value) : Prop := ∀ ls : Array Slot, lv_has ls nL lv → W (xz_p X) (xz_l X) (xz_e X) (xz_R X) (xz_s X) (xz_m X) (xz_a X) (xz_b X) (xz_t X) (xz_c X) (xz_s X).heap [] 0 0 Q (F0 (xz_m X) pc ls st)
def jp_q (X : jz_X) (ov : Option Value) : State → Prop := MQ (xz_b X) (fun _ st o t => o = .returned ov ∧ t.heap = st.heap) (xz_a X) (xz_s X) 0 0 (fun _ => False)
/-- a pure contract: y returns ov, the heap stays as it is -/
def jp_m (l : Launch) (y : MethodName) (cd : Cond) (rm : Room) (G : jz_G) (as : List Value) (m : jz_M) (ov : Option Value) : Prop := Met l y (cd :: gw_tbl) rm (va_Pc as (jz_W G m)) (fun _ st o t => o = .returned ov ∧ t.heap = st.heap) 0 0 (fun _ => False)
theorem jp_iadd {X : jz_X} {nL : Nat} {cc : ByteArray} {own : String} {ret : Option FieldType} {rm0 : Room} {G : jz_G} {Q : State → Prop} {m : jz_M} {lv : List (Nat × Value)} {st : List Value} (pc : Nat) {x y : Int32} (C : jp_C X nL cc own ret rm0 G m) (d : decode cc pc = .ok (.iadd, 1)) (k : jp_J X nL Q lv (pc + 1) (.int (x + y) :: st)) : jp_J X nL Q lv pc (.int y :: .int x :: st) := fun ls hl => lv_iadd C.1.1 C.1.2.1 d (k ls hl)
theorem jp_isub {X : jz_X} {nL : Nat} {cc : ByteArray} {own : String} {ret : Option FieldType} {rm0 : Room} {G : jz_G} {Q : State → Prop} {m : jz_M} {lv : List (Nat × Value)} {st : List Value} (pc : Nat) {x y : Int32} (C : jp_C X nL cc own ret rm0 G m) (d : decode cc pc = .ok (.isub, 1)) (k : jp_J X nL Q lv (pc + 1) (.int (x - y) :: st)) : jp_J X nL Q lv pc (.int y :: .int x :: st) := fun ls hl => lv_isub C.1.1 C.1.2.1 d (k ls hl)
theorem jp_imul {X : jz_X} {nL : Nat} {cc : ByteArray} {own : String} {ret : Option FieldType} {rm0 : Room} {G : jz_G} {Q : State → Prop} {m : jz_M} {lv : List (Nat × Value)} {st : List Value} (pc : Nat) {x y : Int32} (C : jp_C X nL cc own ret rm0 G m) (d : decode cc pc = .ok (.imul, 1)) (k : jp_J X nL Q lv (pc + 1) (.int (x * y) :: st)) : jp_J X nL Q lv pc (.int y :: .int x :: st) := fun ls hl => lv_imul C.1.1 C.1.2.1 d (k ls hl)
theorem jp_iand {X : jz_X} {nL : Nat} {cc : ByteArray} {own : String} {ret : Option FieldType} {rm0 : Room} {G : jz_G} {Q : State → Prop} {m : jz_M} {lv : List (Nat × Value)} {st : List Value} (pc : Nat) {x y : Int32} (C : jp_C X nL cc own ret rm0 G m) (d : decode cc pc = .ok (.iand, 1)) (k : jp_J X nL Q lv (pc + 1) (.int (x &&& y) :: st)) : jp_J X nL Q lv pc (.int y :: .int x :: st) := fun ls hl => lv_iand C.1.1 C.1.2.1 d (k ls hl)
theorem jp_iconst {X : jz_X} {nL : Nat} {cc : ByteArray} {own : String} {ret : Option FieldType} {rm0 : Room} {G : jz_G} {Q : State → Prop} {m : jz_M} {lv : List (Nat × Value)} {st : List Value} (pc : Nat) {n : Int} (v : Int32) (C : jp_C X nL cc own ret rm0 G m) (d : decode cc pc = .ok (.iconst n, 1)) (hv : Int32.ofInt n = v) (k : jp_J X nL Q lv (pc + 1) (.int v :: st)) : jp_J X nL Q lv pc st := fun ls hl => lv_iconst C.1.1 C.1.2.1 d hv (k ls hl)
theorem jp_bipush {X : jz_X} {nL : Nat} {cc : ByteArray} {own : String} {ret : Option FieldType} {rm0 : Room} {G : jz_G} {Q : State → Prop} {m : jz_M} {lv : List (Nat × Value)} {st : List Value} (pc : Nat) {n : Int} (v : Int32) (C : jp_C X nL cc own ret rm0 G m) (d : decode cc pc = .ok (.bipush n, 2)) (hv : (Int8.ofInt n).toInt32 = v) (k : jp_J X nL Q lv (pc + 2) (.int v :: st)) : jp_J X nL Q lv pc st := fun ls hl => lv_bipush C.1.1 C.1.2.1 d hv (k ls hl)
theorem jp_iload_n {X : jz_X} {nL : Nat} {cc : ByteArray} {own : String} {ret : Option FieldType} {rm0 : Room} {G : jz_G} {Q : State → Prop} {m : jz_M} {lv : List (Nat × Value)} {st : List Value} (pc : Nat) {i : Fin 4} {x : Int32} (C : jp_C X nL cc own ret rm0 G m) (d : decode cc pc = .ok (.iload_n i, 1)) (hq : lz_q lv i = some (.int x)) (k : jp_J X nL Q lv (pc + 1) (.int x :: st)) : jp_J X nL Q lv pc st := fun ls hl => lv_iload_n C.1.1 C.1.2.1 d rfl (lz_at hl hq) (k ls hl)
theorem jp_iload {X : jz_X} {nL : Nat} {cc : ByteArray} {own : String} {ret : Option FieldType} {rm0 : Room} {G : jz_G} {Q : State → Prop} {m : jz_M} {lv : List (Nat × Value)} {st : List Value} (pc : Nat) {i : Nat} {x : Int32} (C : jp_C X nL cc own ret rm0 G m) (d : decode cc pc = .ok (.iload i, 2)) (hq : lz_q lv i = some (.int x)) (k : jp_J X nL Q lv (pc + 2) (.int x :: st)) : jp_J X nL Q lv pc st := fun ls hl => lv_iload C.1.1 C.1.2.1 d (lz_at hl hq) (k ls hl)
theorem jp_aload_n {X : jz_X} {nL : Nat} {cc : ByteArray} {own : String} {ret : Option FieldType} {rm0 : Room} {G : jz_G} {Q : State → Prop} {m : jz_M} {lv : List (Nat × Value)} {st : List Value} (pc : Nat) {i : Fin 4} {x : Nat} (C : jp_C X nL cc own ret rm0 G m) (d : decode cc pc = .ok (.aload_n i, 1)) (hq : lz_q lv i = some (.ref x)) (k : jp_J X nL Q lv (pc + 1) (.ref x :: st)) : jp_J X nL Q lv pc st := fun ls hl => lv_aload_n C.1.1 C.1.2.1 d rfl (lz_at hl hq) (k ls hl)
theorem jp_aload {X : jz_X} {nL : Nat} {cc : ByteArray} {own : String} {ret : Option FieldType} {rm0 : Room} {G : jz_G} {Q : State → Prop} {m : jz_M} {lv : List (Nat × Value)} {st : List Value} (pc : Nat) {i : Nat} {x : Nat} (C : jp_C X nL cc own ret rm0 G m) (d : decode cc pc = .ok (.aload i, 2)) (hq : lz_q lv i = some (.ref x)) (k : jp_J X nL Q lv (pc + 2) (.ref x :: st)) : jp_J X nL Q lv pc st := fun ls hl => lv_aload C.1.1 C.1.2.1 d (lz_at hl hq) (k ls hl)
theorem jp_goto {X : jz_X} {nL : Nat} {cc : ByteArray} {own : String} {ret : Option FieldType} {rm0 : Room} {G : jz_G} {Q : State → Prop} {m : jz_M} {lv : List (Nat × Value)} {st : List Value} (pc : Nat) {off : Int} (tgt : Nat) (C : jp_C X nL cc own ret rm0 G m) (d : decode cc pc = .ok (.goto off, 3)) (ht : (pc : Int) + off = (tgt : Int)) (k : jp_J X nL Q lv tgt st) : jp_J X nL Q lv pc st := fun ls hl => lv_goto C.1.1 C.1.2.1 d ht (k ls hl)
theorem jp_if_eq {X : jz_X} {nL : Nat} {cc : ByteArray} {own : String} {ret : Option FieldType} {rm0 : Room} {G : jz_G} {Q : State → Prop} {m : jz_M} {lv : List (Nat × Value)} {st : List Value} (pc : Nat) {x : Int32} {off : Int} (tgt : Nat) (C : jp_C X nL cc own ret rm0 G m) (d : decode cc pc = .ok (.ifCond .eq off, 3)) (ht : (pc : Int) + off = (tgt : Int)) (kt : x = 0 → jp_J X nL Q lv tgt st) (kf : ¬ (x = 0) → jp_J X nL Q lv (pc + 3) st) : jp_J X nL Q lv pc (.int x :: st) := fun ls hl => lv_if_eq C.1.1 C.1.2.1 d ht (fun q => kt q ls hl) (fun q => kf q ls hl)
theorem jp_icmp_eq {X : jz_X} {nL : Nat} {cc : ByteArray} {own : String} {ret : Option FieldType} {rm0 : Room} {G : jz_G} {Q : State → Prop} {m : jz_M} {lv : List (Nat × Value)} {st : List Value} (pc : Nat) {x y : Int32} {off : Int} (tgt : Nat) (C : jp_C X nL cc own ret rm0 G m) (d : decode cc pc = .ok (.if_icmp .eq off, 3)) (ht : (pc : Int) + off = (tgt : Int)) (kt : x = y → jp_J X nL Q lv tgt st) (kf : ¬ (x = y) → jp_J X nL Q lv (pc + 3) st) : jp_J X nL Q lv pc (.int y :: .int x :: st) := fun ls hl => lv_icmp_eq C.1.1 C.1.2.1 d ht (fun q => kt q ls hl) (fun q => kf q ls hl)
theorem jp_if_ne {X : jz_X} {nL : Nat} {cc : ByteArray} {own : String} {ret : Option FieldType} {rm0 : Room} {G : jz_G} {Q : State → Prop} {m : jz_M} {lv : List (Nat × Value)} {st : List Value} (pc : Nat) {x : Int32} {off : Int} (tgt : Nat) (C : jp_C X nL cc own ret rm0 G m) (d : decode cc pc = .ok (.ifCond .ne off, 3)) (ht : (pc : Int) + off = (tgt : Int)) (kt : ¬ x = 0 → jp_J X nL Q lv tgt st) (kf : ¬ (¬ x = 0) → jp_J X nL Q lv (pc + 3) st) : jp_J X nL Q lv pc (.int x :: st) := fun ls hl => lv_if_ne C.1.1 C.1.2.1 d ht (fun q => kt q ls hl) (fun q => kf (fun h => h q) ls hl)
theorem jp_icmp_ne {X : jz_X} {nL : Nat} {cc : ByteArray} {own : String} {ret : Option FieldType} {rm0 : Room} {G : jz_G} {Q : State → Prop} {m : jz_M} {lv : List (Nat × Value)} {st : List Value} (pc : Nat) {x y : Int32} {off : Int} (tgt : Nat) (C : jp_C X nL cc own ret rm0 G m) (d : decode cc pc = .ok (.if_icmp .ne off, 3)) (ht : (pc : Int) + off = (tgt : Int)) (kt : ¬ x = y → jp_J X nL Q lv tgt st) (kf : ¬ (¬ x = y) → jp_J X nL Q lv (pc + 3) st) : jp_J X nL Q lv pc (.int y :: .int x :: st) := fun ls hl => lv_icmp_ne C.1.1 C.1.2.1 d ht (fun q => kt q ls hl) (fun q => kf (fun h => h q) ls hl)
theorem jp_if_lt {X : jz_X} {nL : Nat} {cc : ByteArray} {own : String} {ret : Option FieldType} {rm0 : Room} {G : jz_G} {Q : State → Prop} {m : jz_M} {lv : List (Nat × Value)} {st : List Value} (pc : Nat) {x : Int32} {off : Int} (tgt : Nat) (C : jp_C X nL cc own ret rm0 G m) (d : decode cc pc = .ok (.ifCond .lt off, 3)) (ht : (pc : Int) + off = (tgt : Int)) (kt : x < 0 → jp_J X nL Q lv tgt st) (kf : ¬ (x < 0) → jp_J X nL Q lv (pc + 3) st) : jp_J X nL Q lv pc (.int x :: st) := fun ls hl => lv_if_lt C.1.1 C.1.2.1 d ht (fun q => kt q ls hl) (fun q => kf q ls hl)
theorem jp_icmp_lt {X : jz_X} {nL : Nat} {cc : ByteArray} {own : String} {ret : Option FieldType} {rm0 : Room} {G : jz_G} {Q : State → Prop} {m : jz_M} {lv : List (Nat × Value)} {st : List Value} (pc : Nat) {x y : Int32} {off : Int} (tgt : Nat) (C : jp_C X nL cc own ret rm0 G m) (d : decode cc pc = .ok (.if_icmp .lt off, 3)) (ht : (pc : Int) + off = (tgt : Int)) (kt : x < y → jp_J X nL Q lv tgt st) (kf : ¬ (x < y) → jp_J X nL Q lv (pc + 3) st) : jp_J X nL Q lv pc (.int y :: .int x :: st) := fun ls hl => lv_icmp_lt C.1.1 C.1.2.1 d ht (fun q => kt q ls hl) (fun q => kf q ls hl)
theorem jp_if_ge {X : jz_X} {nL : Nat} {cc : ByteArray} {own : String} {ret : Option FieldType} {rm0 : Room} {G : jz_G} {Q : State → Prop} {m : jz_M} {lv : List (Nat × Value)} {st : List Value} (pc : Nat) {x : Int32} {off : Int} (tgt : Nat) (C : jp_C X nL cc own ret rm0 G m) (d : decode cc pc = .ok (.ifCond .ge off, 3)) (ht : (pc : Int) + off = (tgt : Int)) (kt : 0 ≤ x → jp_J X nL Q lv tgt st) (kf : ¬ (0 ≤ x) → jp_J X nL Q lv (pc + 3) st) : jp_J X nL Q lv pc (.int x :: st) := fun ls hl => lv_if_ge C.1.1 C.1.2.1 d ht (fun q => kt q ls hl) (fun q => kf q ls hl)
theorem jp_icmp_ge {X : jz_X} {nL : Nat} {cc : ByteArray} {own : String} {ret : Option FieldType} {rm0 : Room} {G : jz_G} {Q : State → Prop} {m : jz_M} {lv : List (Nat × Value)} {st : List Value} (pc : Nat) {x y : Int32} {off : Int} (tgt : Nat) (C : jp_C X nL cc own ret rm0 G m) (d : decode cc pc = .ok (.if_icmp .ge off, 3)) (ht : (pc : Int) + off = (tgt : Int)) (kt : y ≤ x → jp_J X nL Q lv tgt st) (kf : ¬ (y ≤ x) → jp_J X nL Q lv (pc + 3) st) : jp_J X nL Q lv pc (.int y :: .int x :: st) := fun ls hl => lv_icmp_ge C.1.1 C.1.2.1 d ht (fun q => kt q ls hl) (fun q => kf q ls hl)
theorem jp_if_gt {X : jz_X} {nL : Nat} {cc : ByteArray} {own : String} {ret : Option FieldType} {rm0 : Room} {G : jz_G} {Q : State → Prop} {m : jz_M} {lv : List (Nat × Value)} {st : List Value} (pc : Nat) {x : Int32} {off : Int} (tgt : Nat) (C : jp_C X nL cc own ret rm0 G m) (d : decode cc pc = .ok (.ifCond .gt off, 3)) (ht : (pc : Int) + off = (tgt : Int)) (kt : 0 < x → jp_J X nL Q lv tgt st) (kf : ¬ (0 < x) → jp_J X nL Q lv (pc + 3) st) : jp_J X nL Q lv pc (.int x :: st) := fun ls hl => lv_if_gt C.1.1 C.1.2.1 d ht (fun q => kt q ls hl) (fun q => kf q ls hl)
theorem jp_icmp_gt {X : jz_X} {nL : Nat} {cc : ByteArray} {own : String} {ret : Option FieldType} {rm0 : Room} {G : jz_G} {Q : State → Prop} {m : jz_M} {lv : List (Nat × Value)} {st : List Value} (pc : Nat) {x y : Int32} {off : Int} (tgt : Nat) (C : jp_C X nL cc own ret rm0 G m) (d : decode cc pc = .ok (.if_icmp .gt off, 3)) (ht : (pc : Int) + off = (tgt : Int)) (kt : y < x → jp_J X nL Q lv tgt st) (kf : ¬ (y < x) → jp_J X nL Q lv (pc + 3) st) : jp_J X nL Q lv pc (.int y :: .int x :: st) := fun ls hl => lv_icmp_gt C.1.1 C.1.2.1 d ht (fun q => kt q ls hl) (fun q => kf q ls hl)
theorem jp_if_le {X : jz_X} {nL : Nat} {cc : ByteArray} {own : String} {ret : Option FieldType} {rm0 : Room} {G : jz_G} {Q : State → Prop} {m : jz_M} {lv : List (Nat × Value)} {st : List Value} (pc : Nat) {x : Int32} {off : Int} (tgt : Nat) (C : jp_C X nL cc own ret rm0 G m) (d : decode cc pc = .ok (.ifCond .le off, 3)) (ht : (pc : Int) + off = (tgt : Int)) (kt : x ≤ 0 → jp_J X nL Q lv tgt st) (kf : ¬ (x ≤ 0) → jp_J X nL Q lv (pc + 3) st) : jp_J X nL Q lv pc (.int x :: st) := fun ls hl => lv_if_le C.1.1 C.1.2.1 d ht (fun q => kt q ls hl) (fun q => kf q ls hl)
theorem jp_icmp_le {X : jz_X} {nL : Nat} {cc : ByteArray} {own : String} {ret : Option FieldType} {rm0 : Room} {G : jz_G} {Q : State → Prop} {m : jz_M} {lv : List (Nat × Value)} {st : List Value} (pc : Nat) {x y : Int32} {off : Int} (tgt : Nat) (C : jp_C X nL cc own ret rm0 G m) (d : decode cc pc = .ok (.if_icmp .le off, 3)) (ht : (pc : Int) + off = (tgt : Int)) (kt : x ≤ y → jp_J X nL Q lv tgt st) (kf : ¬ (x ≤ y) → jp_J X nL Q lv (pc + 3) st) : jp_J X nL Q lv pc (.int y :: .int x :: st) := fun ls hl => lv_icmp_le C.1.1 C.1.2.1 d ht (fun q => kt q ls hl) (fun q => kf q ls hl)
theorem jp_top {X : jz_X} {nL : Nat} {Q : State → Prop} {lv : List (Nat × Value)} {st : List Value} {pc : Nat} {x y : Int32} (h : y = x) (k : jp_J X nL Q lv pc (.int y :: st)) : jp_J X nL Q lv pc (.int x :: st) := h ▸ k
theorem jp_iald {X : jz_X} {nL : Nat} {cc : ByteArray} {own : String} {ret : Option FieldType} {rm0 : Room} {G : jz_G} {Q : State → Prop} {m : jz_M} {lv : List (Nat × Value)} {st : List Value} (pc : Nat) {k n j : Nat} {i : Int32} (C : jp_C X nL cc own ret rm0 G m) (d : decode cc pc = .ok (.iaload, 1)) (hA : iz_I G k n) (e : jz_ix n i = some j) (kk : jp_J X nL Q lv (pc + 1) (.int (m k j) :: st)) : jp_J X nL Q lv pc (.int i :: .ref (gz_ad G k) :: st) := fun ls hl => by
  obtain ⟨hk, t0, cA, ht, hE⟩ := hA
  obtain ⟨h1, h2, -⟩ := jz_ix_in e
  have hz := kk ls hl
  rw [← h2] at hz
  exact va_iald C.1.1 C.1.2.1 C.1.2.2.2.2.2.1 C.2 k t0 (by rw [jz_w_at hk, hE]) ht h1 d hz
theorem jp_get {X : jz_X} {nL : Nat} {cc : ByteArray} {own : String} {ret : Option FieldType} {rm0 : Room} {G : jz_G} {Q : State → Prop} {m : jz_M} {lv : List (Nat × Value)} {st : List Value} (pc : Nat) {k ci ix j Nf : Nat} {ref Cn : String} {T : u_T} {F : (Nat → Int32) → List Value} {v : Value} (C : jp_C X nL cc own ret rm0 G m) (d : decode cc pc = .ok (.getfield ix, 3)) (hO : iz_O G k ci F) (hc : (gz_cl G)[ci]? = some (Cn, T, Nf)) (hin : ∀ w ∈ u_ws Cn T Nf, w ∈ gw_tbl) (hj : j < Nf) (hlink : Cond.fieldLink own ix ref (T j).2.1 (T j).2.2.1 ∈ lw_tbl) (hrf : (T j).1 = ref) (hv : (F (m k))[j]? = some v) (kk : jp_J X nL Q lv (pc + 3) (v :: st)) : jp_J X nL Q lv pc (.ref (gz_ad G k) :: st) := fun ls hl => by
  subst hrf
  exact va_get C.1.1 C.1.2.1 C.1.2.2.2.2.1 (fun w hw => hin w hw) C.1.2.2.2.1 C.1.2.2.2.2.2.1 C.2 k (by rw [jz_w_at hO.1, hO.2]) hc j hj (C.1.2.2.2.2.1 _ (gw_in hlink (by first | rfl | simp [gw_ok, Cond.onTables, Cond.keeps, Cond.steady]))) (fun _ h9 => h9) hv d (kk ls hl)
theorem jp_iret {X : jz_X} {nL : Nat} {cc : ByteArray} {own : String} {ret : Option FieldType} {rm0 : Room} {G : jz_G} {m : jz_M} {lv : List (Nat × Value)} (pc : Nat) {v : Int32} (C : jp_C X nL cc own ret rm0 G m) (d : decode cc pc = .ok (.ireturn, 1)) (hr : ret = some .int) : jp_J X nL (jp_q X (some (.int v))) lv pc [.int v] := fun ls hl => W.iret C.1.1 C.1.2.1 (C.1.2.2.2.2.2.2.2.2.1.trans hr) (fun t ht hW => ⟨rfl, ht⟩) (fun _ h => by cases h) d C.1.2.2.2.2.2.2.2.1
theorem jp_zret {X : jz_X} {nL : Nat} {cc : ByteArray} {own : String} {ret : Option FieldType} {rm0 : Room} {G : jz_G} {m : jz_M} {lv : List (Nat × Value)} (pc : Nat) {v : Int32} (C : jp_C X nL cc own ret rm0 G m) (d : decode cc pc = .ok (.ireturn, 1)) (hr : ret = some .boolean) (hn : narrow .boolean (.int v) = .int v) : jp_J X nL (jp_q X (some (.int v))) lv pc [.int v] := fun ls hl => W.zret C.1.1 C.1.2.1 (C.1.2.2.2.2.2.2.2.2.1.trans hr) hn (fun t ht hW => ⟨rfl, ht⟩) (fun _ h => by cases h) d C.1.2.2.2.2.2.2.2.1
theorem jp_vret {X : jz_X} {nL : Nat} {cc : ByteArray} {own : String} {ret : Option FieldType} {rm0 : Room} {G : jz_G} {m : jz_M} {lv : List (Nat × Value)} (pc : Nat) (C : jp_C X nL cc own ret rm0 G m) (d : decode cc pc = .ok (.return_, 1)) (hr : ret = none) : jp_J X nL (jp_q X none) lv pc [] := fun ls hl => W.vret C.1.1 C.1.2.1 (C.1.2.2.2.2.2.2.2.2.1.trans hr) (fun t ht hW => ⟨rfl, ht⟩) (fun _ h => by cases h) d C.1.2.2.2.2.2.2.2.1
theorem jp_met {l : Launch} {y : MethodName} {cc : ByteArray} {nL : Nat} {ret : Option FieldType} {rm : Room} {G : jz_G} {as : List Value} {m : jz_M} {ov : Option Value} {own : String} (hy : plainName y.cls = true) (ho : y.cls = own) (hI : jz_I G) (hlen : (lg_sl as).length ≤ nL)
    (body : ∀ X : jz_X, xz_l X = l → jp_C X nL cc own ret rm G m → jp_J X nL (jp_q X ov) (lv_args 0 as) 0 []) : jp_m l y (.code y cc nL ret) rm G as m ov := by
  refine Met.ofW (cc := cc) (maxL := nL) (ret := ret) hy rfl ?_
  intro p e s mi args below meth c s₁ B hml hv
  obtain ⟨rfl, hP, hK, hN⟩ := hv
  have hts := atoms_spec (ws := Cond.code y cc nL ret :: gw_tbl) B.pre
  subst ho
  have C : jp_C (p, l, e, (headSpec (Cond.code y cc nL ret :: gw_tbl) rm).room, s, mi, as.toArray, below, meth, c) nL cc y.cls ret rm G m := ⟨⟨B.exec, B.bytes, hml, findClass_of_methodNamed B.named, fun w h => hts w (List.mem_cons_of_mem _ h), hK, hI, B.notSynchronized, B.returns, rfl, hN⟩, hP⟩
  have hz := body _ rfl C _ (lv_entry as hlen)
  rw [lg_entry_eq]
  exact hz
theorem jp_run {X : jz_X} {nL : Nat} {Q : State → Prop} {lv : List (Nat × Value)} {st : List Value} {pc : Nat} {ov : Option Value} {st0 st' : List Value} {ls : Array Slot} (hl : lv_has ls nL lv)
    (hr : va_Run (xz_p X) (xz_l X) (xz_e X) (xz_R X) (xz_s X) (xz_m X) (xz_a X) (xz_b X) (xz_t X) (xz_c X) (xz_s X).heap [] 0 0 0 0 (F0 (xz_m X) pc ls st0) st (fun st o t => o = .returned ov ∧ t.heap = st.heap) (fun _ => False))
    (hst : ov.toList ++ st = st') (kk : jp_J X nL Q lv (pc + 3) st') : W (xz_p X) (xz_l X) (xz_e X) (xz_R X) (xz_s X) (xz_m X) (xz_a X) (xz_b X) (xz_t X) (xz_c X) (xz_s X).heap [] 0 0 Q (F0 (xz_m X) pc ls st0) := by
  intro T hT X0
  obtain ⟨v, st₀, t, T', L, h0, X', hL, e1, e2, ⟨hv, hw⟩, go⟩ := hr T hT X0
  cases hv
  subst hst
  have hL0 : L = [] := List.eq_nil_iff_forall_not_mem.mpr (fun q hq => hL q hq)
  subst hL0
  obtain ⟨t2, a1, b1⟩ := kk ls hl T' (by rw [e1, hw, h0]) X'
  exact ⟨t2, go t2 a1, b1⟩
theorem jp_callV {X : jz_X} {nL : Nat} {cc : ByteArray} {own : String} {ret : Option FieldType} {rm0 : Room} {G : jz_G} {Q : State → Prop} {m : jz_M} {lv : List (Nat × Value)} {st : List Value} (pc : Nat) {k ci Nf : Nat} {T : u_T} {F : (Nat → Int32) → List Value} (As : List Value) {ov : Option Value} {cd : Cond} {y : MethodName} {bytes : ByteArray} {maxL n ix : Nat} {rt : Option FieldType} {rm : Room} {st0 st' : List Value} (C : jp_C X nL cc own ret rm0 G m) (d : decode cc pc = .ok (.invokevirtual ix, 3)) (hM : jp_m (xz_l X) y cd rm G (.ref (gz_ad G k) :: As) m ov) (hs : cz_S cd y bytes maxL rt n) (hv : cz_V y) (hlink : Cond.methodLink own ix y ∈ lw_tbl) (hO : iz_O G k ci F) (hc : (gz_cl G)[ci]? = some (y.cls, T, Nf)) (hR : rz_ok rm maxL rm0 = true) (hn : As.length = n) (hst0 : st0 = As.reverse ++ .ref (gz_ad G k) :: st) (hwt : (st.map fun v => v.category).sum ≤ 8) (hst : ov.toList ++ st = st') (kk : jp_J X nL Q lv (pc + 3) st') : jp_J X nL Q lv pc st0 := fun ls hl => by
  refine jp_run hl (va_runV (As := As) (b := gz_ad G k) (rest := st) ⟨C.1.1, C.1.2.1, C.1.2.2.1, C.1.2.2.2.1, C.1.2.2.2.2.1⟩ hM ⟨cz_B C.1 hs hR hlink, cz_I C.1 hv⟩ ⟨jz_blind, va_recv C.1.2.2.2.2.2.1 C.2 hc (q0 := k) (ci := ci) (by rw [jz_w_at hO.1, hO.2]), fun U hU hW => ⟨rfl, by rw [hU]; exact C.2, va_K.moved hW.alike C.1.2.2.2.2.2.1, nw_ok.warm hW C.1.2.2.2.2.2.2.2.2.2.2⟩⟩ rfl hn hl.1 hst0 (lv_room hwt) d ⟨Nat.zero_le _, Nat.zero_le _⟩) hst kk
theorem jp_callVN {X : jz_X} {nL : Nat} {cc : ByteArray} {own : String} {ret : Option FieldType} {rm0 : Room} {G : jz_G} {Q : State → Prop} {m : jz_M} {lv : List (Nat × Value)} {st : List Value} (pc : Nat) {k ci Nf : Nat} {T : u_T} {F : (Nat → Int32) → List Value} {host : String} (As : List Value) {ov : Option Value} {cd : Cond} {y : MethodName} {bytes : ByteArray} {maxL n ix : Nat} {rt : Option FieldType} {rm : Room} {st0 st' : List Value} (C : jp_C X nL cc own ret rm0 G m) (d : decode cc pc = .ok (.invokevirtual ix, 3)) (hM : jp_m (xz_l X) y cd rm G (.ref (gz_ad G k) :: As) m ov) (hs : cz_S cd y bytes maxL rt n) (hv : cz_V y) (hlink : Cond.methodLinkNest own ix y host ∈ lw_tbl) (hO : iz_O G k ci F) (hc : (gz_cl G)[ci]? = some (y.cls, T, Nf)) (hR : rz_ok rm maxL rm0 = true) (hn : As.length = n) (hst0 : st0 = As.reverse ++ .ref (gz_ad G k) :: st) (hwt : (st.map fun v => v.category).sum ≤ 8) (hst : ov.toList ++ st = st') (kk : jp_J X nL Q lv (pc + 3) st') : jp_J X nL Q lv pc st0 := fun ls hl => by
  refine jp_run hl (va_runVN (As := As) (b := gz_ad G k) (rest := st) ⟨C.1.1, C.1.2.1, C.1.2.2.1, C.1.2.2.2.1, C.1.2.2.2.2.1⟩ hM ⟨cz_N C.1 hs hR hlink, cz_I C.1 hv⟩ ⟨jz_blind, va_recv C.1.2.2.2.2.2.1 C.2 hc (q0 := k) (ci := ci) (by rw [jz_w_at hO.1, hO.2]), fun U hU hW => ⟨rfl, by rw [hU]; exact C.2, va_K.moved hW.alike C.1.2.2.2.2.2.1, nw_ok.warm hW C.1.2.2.2.2.2.2.2.2.2.2⟩⟩ rfl hn hl.1 hst0 (lv_room hwt) d ⟨Nat.zero_le _, Nat.zero_le _⟩) hst kk
theorem jp_callS {X : jz_X} {nL : Nat} {cc : ByteArray} {own : String} {ret : Option FieldType} {rm0 : Room} {G : jz_G} {Q : State → Prop} {m : jz_M} {lv : List (Nat × Value)} {st : List Value} (pc : Nat) (As : List Value) {ov : Option Value} {cd : Cond} {y : MethodName} {bytes : ByteArray} {maxL n ix : Nat} {rt : Option FieldType} {rm : Room} {st0 st' : List Value} (C : jp_C X nL cc own ret rm0 G m) (d : decode cc pc = .ok (.invokestatic ix, 3)) (hM : jp_m (xz_l X) y cd rm G As m ov) (hs : cz_S cd y bytes maxL rt n) (hv : Cond.static y ∈ lw_tbl) (hlink : Cond.methodLink own ix y ∈ lw_tbl) (hR : rz_ok rm maxL rm0 = true) (hn : As.length = n) (hst0 : st0 = As.reverse ++ st) (hwt : (st.map fun v => v.category).sum ≤ 8) (hst : ov.toList ++ st = st') (kk : jp_J X nL Q lv (pc + 3) st') : jp_J X nL Q lv pc st0 := fun ls hl => by
  refine jp_run hl (va_runS (As := As) (rest := st) ⟨C.1.1, C.1.2.1, C.1.2.2.1, C.1.2.2.2.1, C.1.2.2.2.2.1⟩ hM ⟨cz_B C.1 hs hR hlink, C.1.2.2.2.2.1 _ (gw_in hv (by first | rfl | simp [gw_ok, Cond.onTables, Cond.keeps, Cond.steady]))⟩ ⟨jz_blind, fun U hU hW => ⟨rfl, by rw [hU]; exact C.2, va_K.moved hW.alike C.1.2.2.2.2.2.1, nw_ok.warm hW C.1.2.2.2.2.2.2.2.2.2.2⟩⟩ rfl hn hl.1 hst0 (lv_room hwt) d ⟨Nat.zero_le _, Nat.zero_le _⟩) hst kk
theorem gp_Dr_9 {X : jz_X} {nL : Nat} {cc : ByteArray} {ret : Option FieldType} {rm0 : Room} {Q : State → Prop} {m : jz_M} {lv : List (Nat × Value)} {st : List Value} {Z : cz_Z} (pc : Nat) (C : jp_C X nL cc R_Dr ret rm0 (cz_G Z) m) (d : decode cc pc = .ok (.getfield 9, 3)) (kk : jp_J X nL Q lv (pc + 3) (.ref (gz_ad (cz_G Z) 147) :: st)) : jp_J X nL Q lv pc (.ref (gz_ad (cz_G Z) 146) :: st) := jp_get pc (ref := R_Dr) C d oz_Dr rfl in_Dr (j := 0) (by decide) (lt_1 (i := 99) (by set_option maxRecDepth 100000 in exact rfl)) rfl rfl kk
theorem gp_Wa_15 {X : jz_X} {nL : Nat} {cc : ByteArray} {ret : Option FieldType} {rm0 : Room} {Q : State → Prop} {m : jz_M} {lv : List (Nat × Value)} {st : List Value} {Z : cz_Z} (pc : Nat) (C : jp_C X nL cc R_Wa ret rm0 (cz_G Z) m) (d : decode cc pc = .ok (.getfield 15, 3)) (kk : jp_J X nL Q lv (pc + 3) (.ref (gz_ad (cz_G Z) 150) :: st)) : jp_J X nL Q lv pc (.ref (gz_ad (cz_G Z) 148) :: st) := jp_get pc (ref := R_Wa) C d oz_Wa rfl in_Wa (j := 1) (by decide) (lt_1 (i := 124) (by set_option maxRecDepth 100000 in exact rfl)) rfl rfl kk
theorem gp_Wa_18 {X : jz_X} {nL : Nat} {cc : ByteArray} {ret : Option FieldType} {rm0 : Room} {Q : State → Prop} {m : jz_M} {lv : List (Nat × Value)} {st : List Value} {Z : cz_Z} (pc : Nat) (C : jp_C X nL cc R_Wa ret rm0 (cz_G Z) m) (d : decode cc pc = .ok (.getfield 18, 3)) (kk : jp_J X nL Q lv (pc + 3) (.ref (gz_ad (cz_G Z) 151) :: st)) : jp_J X nL Q lv pc (.ref (gz_ad (cz_G Z) 148) :: st) := jp_get pc (ref := R_Wa) C d oz_Wa rfl in_Wa (j := 2) (by decide) (lt_1 (i := 125) (by set_option maxRecDepth 100000 in exact rfl)) rfl rfl kk
theorem gp_Wa_9 {X : jz_X} {nL : Nat} {cc : ByteArray} {ret : Option FieldType} {rm0 : Room} {Q : State → Prop} {m : jz_M} {lv : List (Nat × Value)} {st : List Value} {Z : cz_Z} (pc : Nat) (C : jp_C X nL cc R_Wa ret rm0 (cz_G Z) m) (d : decode cc pc = .ok (.getfield 9, 3)) (kk : jp_J X nL Q lv (pc + 3) (.ref (gz_ad (cz_G Z) 149) :: st)) : jp_J X nL Q lv pc (.ref (gz_ad (cz_G Z) 148) :: st) := jp_get pc (ref := R_Wa) C d oz_Wa rfl in_Wa (j := 0) (by decide) (lt_1 (i := 123) (by set_option maxRecDepth 100000 in exact rfl)) rfl rfl kk
theorem gp_Wi_15 {X : jz_X} {nL : Nat} {cc : ByteArray} {ret : Option FieldType} {rm0 : Room} {Q : State → Prop} {m : jz_M} {lv : List (Nat × Value)} {st : List Value} {Z : cz_Z} (pc : Nat) (C : jp_C X nL cc R_Wi ret rm0 (cz_G Z) m) (d : decode cc pc = .ok (.getfield 15, 3)) (kk : jp_J X nL Q lv (pc + 3) (.ref (gz_ad (cz_G Z) 5) :: st)) : jp_J X nL Q lv pc (.ref (gz_ad (cz_G Z) 3) :: st) := jp_get pc (ref := R_Wi) C d oz_Wi rfl in_Wi (j := 1) (by decide) (lt_1 (i := 30) (by set_option maxRecDepth 100000 in exact rfl)) rfl rfl kk
theorem gp_Wi_9 {X : jz_X} {nL : Nat} {cc : ByteArray} {ret : Option FieldType} {rm0 : Room} {Q : State → Prop} {m : jz_M} {lv : List (Nat × Value)} {st : List Value} {Z : cz_Z} (pc : Nat) (C : jp_C X nL cc R_Wi ret rm0 (cz_G Z) m) (d : decode cc pc = .ok (.getfield 9, 3)) (kk : jp_J X nL Q lv (pc + 3) (.ref (gz_ad (cz_G Z) 4) :: st)) : jp_J X nL Q lv pc (.ref (gz_ad (cz_G Z) 3) :: st) := jp_get pc (ref := R_Wi) C d oz_Wi rfl in_Wi (j := 0) (by decide) (lt_1 (i := 29) (by set_option maxRecDepth 100000 in exact rfl)) rfl rfl kk
theorem gp_AR_13 {X : jz_X} {nL : Nat} {cc : ByteArray} {ret : Option FieldType} {rm0 : Room} {Q : State → Prop} {m : jz_M} {lv : List (Nat × Value)} {st : List Value} {Z : cz_Z} (pc : Nat) (C : jp_C X nL cc R_AR ret rm0 (cz_G Z) m) (d : decode cc pc = .ok (.getfield 13, 3)) (kk : jp_J X nL Q lv (pc + 3) (.ref (gz_ad (cz_G Z) 2) :: st)) : jp_J X nL Q lv pc (.ref (gz_ad (cz_G Z) 0) :: st) := jp_get pc (ref := R_AR) C d oz_AR rfl in_AR (j := 1) (by decide) (lt_1 (i := 134) (by set_option maxRecDepth 100000 in exact rfl)) rfl rfl kk
theorem gp_AR_19 {X : jz_X} {nL : Nat} {cc : ByteArray} {ret : Option FieldType} {rm0 : Room} {Q : State → Prop} {m : jz_M} {lv : List (Nat × Value)} {st : List Value} {Z : cz_Z} (pc : Nat) (C : jp_C X nL cc R_AR ret rm0 (cz_G Z) m) (d : decode cc pc = .ok (.getfield 19, 3)) (kk : jp_J X nL Q lv (pc + 3) (.ref (gz_ad (cz_G Z) 3) :: st)) : jp_J X nL Q lv pc (.ref (gz_ad (cz_G Z) 0) :: st) := jp_get pc (ref := R_AR) C d oz_AR rfl in_AR (j := 2) (by decide) (lt_1 (i := 135) (by set_option maxRecDepth 100000 in exact rfl)) rfl rfl kk
theorem gp_AR_25 {X : jz_X} {nL : Nat} {cc : ByteArray} {ret : Option FieldType} {rm0 : Room} {Q : State → Prop} {m : jz_M} {lv : List (Nat × Value)} {st : List Value} {Z : cz_Z} (pc : Nat) (C : jp_C X nL cc R_AR ret rm0 (cz_G Z) m) (d : decode cc pc = .ok (.getfield 25, 3)) (kk : jp_J X nL Q lv (pc + 3) (.ref (gz_ad (cz_G Z) 6) :: st)) : jp_J X nL Q lv pc (.ref (gz_ad (cz_G Z) 0) :: st) := jp_get pc (ref := R_AR) C d oz_AR rfl in_AR (j := 3) (by decide) (lt_1 (i := 136) (by set_option maxRecDepth 100000 in exact rfl)) rfl rfl kk
theorem gp_AR_32 {X : jz_X} {nL : Nat} {cc : ByteArray} {ret : Option FieldType} {rm0 : Room} {Q : State → Prop} {m : jz_M} {lv : List (Nat × Value)} {st : List Value} {Z : cz_Z} (pc : Nat) (C : jp_C X nL cc R_AR ret rm0 (cz_G Z) m) (d : decode cc pc = .ok (.getfield 32, 3)) (kk : jp_J X nL Q lv (pc + 3) (.ref (gz_ad (cz_G Z) 13) :: st)) : jp_J X nL Q lv pc (.ref (gz_ad (cz_G Z) 0) :: st) := jp_get pc (ref := R_AR) C d oz_AR rfl in_AR (j := 4) (by decide) (lt_1 (i := 137) (by set_option maxRecDepth 100000 in exact rfl)) rfl rfl kk
theorem gp_AR_40 {X : jz_X} {nL : Nat} {cc : ByteArray} {ret : Option FieldType} {rm0 : Room} {Q : State → Prop} {m : jz_M} {lv : List (Nat × Value)} {st : List Value} {Z : cz_Z} (pc : Nat) (C : jp_C X nL cc R_AR ret rm0 (cz_G Z) m) (d : decode cc pc = .ok (.getfield 40, 3)) (kk : jp_J X nL Q lv (pc + 3) (.ref (gz_ad (cz_G Z) 146) :: st)) : jp_J X nL Q lv pc (.ref (gz_ad (cz_G Z) 0) :: st) := jp_get pc (ref := R_AR) C d oz_AR rfl in_AR (j := 5) (by decide) (lt_1 (i := 138) (by set_option maxRecDepth 100000 in exact rfl)) rfl rfl kk
theorem gp_AR_47 {X : jz_X} {nL : Nat} {cc : ByteArray} {ret : Option FieldType} {rm0 : Room} {Q : State → Prop} {m : jz_M} {lv : List (Nat × Value)} {st : List Value} {Z : cz_Z} (pc : Nat) (C : jp_C X nL cc R_AR ret rm0 (cz_G Z) m) (d : decode cc pc = .ok (.getfield 47, 3)) (kk : jp_J X nL Q lv (pc + 3) (.ref (gz_ad (cz_G Z) 148) :: st)) : jp_J X nL Q lv pc (.ref (gz_ad (cz_G Z) 0) :: st) := jp_get pc (ref := R_AR) C d oz_AR rfl in_AR (j := 6) (by decide) (lt_1 (i := 139) (by set_option maxRecDepth 100000 in exact rfl)) rfl rfl kk
theorem gp_AR_9 {X : jz_X} {nL : Nat} {cc : ByteArray} {ret : Option FieldType} {rm0 : Room} {Q : State → Prop} {m : jz_M} {lv : List (Nat × Value)} {st : List Value} {Z : cz_Z} (pc : Nat) (C : jp_C X nL cc R_AR ret rm0 (cz_G Z) m) (d : decode cc pc = .ok (.getfield 9, 3)) (kk : jp_J X nL Q lv (pc + 3) (.ref (gz_ad (cz_G Z) 1) :: st)) : jp_J X nL Q lv pc (.ref (gz_ad (cz_G Z) 0) :: st) := jp_get pc (ref := R_AR) C d oz_AR rfl in_AR (j := 0) (by decide) (lt_1 (i := 133) (by set_option maxRecDepth 100000 in exact rfl)) rfl rfl kk
set_option maxHeartbeats 4000000 in
set_option maxRecDepth 100000 in
theorem p_AR_isRouter {Z : cz_Z} (l : Launch) (hI : jz_I (cz_G Z)) {a0 : Int32} {m : jz_M} {r : Int32}  (h : f_AR_isRouter a0 m = some r) : jp_m l y_AR_isRouter cd_AR_isRouter rm_AR_isRouter (cz_G Z) [.int a0] m (some (.int r)) := by
  refine jp_met (own := R_AR) (by decide) rfl hI (Nat.le_of_ble_eq_true rfl) (fun X hX C => ?_)
  subst hX
  show jp_J X 1 _ [(0, .int a0)] 0 []
  unfold f_AR_isRouter at h
  refine jp_iload_n 0 C d_AR_isRouter_0 rfl ?_
  refine jp_if_lt 1 14 C d_AR_isRouter_1 (by decide) (fun c1_ => ?_) (fun c1_ => ?_)
  · have h := jz_t c1_ h
    refine jp_iconst 14 0 C d_AR_isRouter_14 (by decide) ?_
    obtain rfl := Option.some.inj h
    exact jp_zret 15 (v := 0) C d_AR_isRouter_15 rfl nb_0
  · have h := jz_f c1_ h
    refine jp_iload_n 4 C d_AR_isRouter_4 rfl ?_
    refine jp_bipush 5 6 C d_AR_isRouter_5 (by decide) ?_
    refine jp_icmp_ge 7 14 C d_AR_isRouter_7 (by decide) (fun c2_ => ?_) (fun c2_ => ?_)
    · have h := jz_t c2_ h
      refine jp_iconst 14 0 C d_AR_isRouter_14 (by decide) ?_
      obtain rfl := Option.some.inj h
      exact jp_zret 15 (v := 0) C d_AR_isRouter_15 rfl nb_0
    · have h := jz_f c2_ h
      refine jp_iconst 10 1 C d_AR_isRouter_10 (by decide) ?_
      refine jp_goto 11 15 C d_AR_isRouter_11 (by decide) ?_
      obtain rfl := Option.some.inj h
      exact jp_zret 15 (v := 1) C d_AR_isRouter_15 rfl nb_1
set_option maxHeartbeats 4000000 in
set_option maxRecDepth 100000 in
theorem p_AR_isCircuit {Z : cz_Z} (l : Launch) (hI : jz_I (cz_G Z)) {a0 : Int32} {m : jz_M} {r : Int32}  (h : f_AR_isCircuit a0 m = some r) : jp_m l y_AR_isCircuit cd_AR_isCircuit rm_AR_isCircuit (cz_G Z) [.int a0] m (some (.int r)) := by
  refine jp_met (own := R_AR) (by decide) rfl hI (Nat.le_of_ble_eq_true rfl) (fun X hX C => ?_)
  subst hX
  show jp_J X 1 _ [(0, .int a0)] 0 []
  unfold f_AR_isCircuit at h
  refine jp_iload_n 0 C d_AR_isCircuit_0 rfl ?_
  refine jp_if_lt 1 14 C d_AR_isCircuit_1 (by decide) (fun c1_ => ?_) (fun c1_ => ?_)
  · have h := jz_t c1_ h
    refine jp_iconst 14 0 C d_AR_isCircuit_14 (by decide) ?_
    obtain rfl := Option.some.inj h
    exact jp_zret 15 (v := 0) C d_AR_isCircuit_15 rfl nb_0
  · have h := jz_f c1_ h
    refine jp_iload_n 4 C d_AR_isCircuit_4 rfl ?_
    refine jp_bipush 5 6 C d_AR_isCircuit_5 (by decide) ?_
    refine jp_icmp_ge 7 14 C d_AR_isCircuit_7 (by decide) (fun c2_ => ?_) (fun c2_ => ?_)
    · have h := jz_t c2_ h
      refine jp_iconst 14 0 C d_AR_isCircuit_14 (by decide) ?_
      obtain rfl := Option.some.inj h
      exact jp_zret 15 (v := 0) C d_AR_isCircuit_15 rfl nb_0
    · have h := jz_f c2_ h
      refine jp_iconst 10 1 C d_AR_isCircuit_10 (by decide) ?_
      refine jp_goto 11 15 C d_AR_isCircuit_11 (by decide) ?_
      obtain rfl := Option.some.inj h
      exact jp_zret 15 (v := 1) C d_AR_isCircuit_15 rfl nb_1
set_option maxHeartbeats 4000000 in
set_option maxRecDepth 100000 in
theorem p_AR_isLevel {Z : cz_Z} (l : Launch) (hI : jz_I (cz_G Z)) {a0 : Int32} {m : jz_M} {r : Int32}  (h : f_AR_isLevel a0 m = some r) : jp_m l y_AR_isLevel cd_AR_isLevel rm_AR_isLevel (cz_G Z) [.int a0] m (some (.int r)) := by
  refine jp_met (own := R_AR) (by decide) rfl hI (Nat.le_of_ble_eq_true rfl) (fun X hX C => ?_)
  subst hX
  show jp_J X 1 _ [(0, .int a0)] 0 []
  unfold f_AR_isLevel at h
  refine jp_iload_n 0 C d_AR_isLevel_0 rfl ?_
  refine jp_iconst 1 1 C d_AR_isLevel_1 (by decide) ?_
  refine jp_icmp_lt 2 14 C d_AR_isLevel_2 (by decide) (fun c1_ => ?_) (fun c1_ => ?_)
  · have h := jz_t c1_ h
    refine jp_iconst 14 0 C d_AR_isLevel_14 (by decide) ?_
    obtain rfl := Option.some.inj h
    exact jp_zret 15 (v := 0) C d_AR_isLevel_15 rfl nb_0
  · have h := jz_f c1_ h
    refine jp_iload_n 5 C d_AR_isLevel_5 rfl ?_
    refine jp_iconst 6 2 C d_AR_isLevel_6 (by decide) ?_
    refine jp_icmp_gt 7 14 C d_AR_isLevel_7 (by decide) (fun c2_ => ?_) (fun c2_ => ?_)
    · have h := jz_t c2_ h
      refine jp_iconst 14 0 C d_AR_isLevel_14 (by decide) ?_
      obtain rfl := Option.some.inj h
      exact jp_zret 15 (v := 0) C d_AR_isLevel_15 rfl nb_0
    · have h := jz_f c2_ h
      refine jp_iconst 10 1 C d_AR_isLevel_10 (by decide) ?_
      refine jp_goto 11 15 C d_AR_isLevel_11 (by decide) ?_
      obtain rfl := Option.some.inj h
      exact jp_zret 15 (v := 1) C d_AR_isLevel_15 rfl nb_1
set_option maxHeartbeats 4000000 in
set_option maxRecDepth 100000 in
theorem p_Wi_isAttached {Z : cz_Z} (l : Launch) (hI : jz_I (cz_G Z)) {a1 : Int32} {a2 : Int32} {m : jz_M} {r : Int32}  (h : f_Wi_isAttached a1 a2 m = some r) : jp_m l y_Wi_isAttached cd_Wi_isAttached rm_Wi_isAttached (cz_G Z) [.ref (gz_ad (cz_G Z) 3), .int a1, .int a2] m (some (.int r)) := by
  refine jp_met (own := R_Wi) (by decide) rfl hI (Nat.le_of_ble_eq_true rfl) (fun X hX C => ?_)
  subst hX
  show jp_J X 3 _ [(0, .ref (gz_ad (cz_G Z) 3)), (1, .int a1), (2, .int a2)] 0 []
  unfold f_Wi_isAttached at h
  refine jp_aload_n 0 C d_Wi_isAttached_0 rfl ?_
  refine gp_Wi_9 1 C d_Wi_isAttached_1 ?_
  refine jp_iload_n 4 C d_Wi_isAttached_4 rfl ?_
  refine jp_bipush 5 6 C d_Wi_isAttached_5 (by decide) ?_
  refine jp_imul 7 C d_Wi_isAttached_7 ?_
  refine jp_iload_n 8 C d_Wi_isAttached_8 rfl ?_
  refine jp_iadd 9 C d_Wi_isAttached_9 ?_
  obtain ⟨j1_, ej1_, h⟩ := jz_b h
  refine jp_iald 10 C d_Wi_isAttached_10 zk_Wi_metrics ej1_ ?_
  refine jp_if_le 11 18 C d_Wi_isAttached_11 (by decide) (fun c2_ => ?_) (fun c2_ => ?_)
  · have h := jz_t c2_ h
    refine jp_iconst 18 0 C d_Wi_isAttached_18 (by decide) ?_
    obtain rfl := Option.some.inj h
    exact jp_zret 19 (v := 0) C d_Wi_isAttached_19 rfl nb_0
  · have h := jz_f c2_ h
    refine jp_iconst 14 1 C d_Wi_isAttached_14 (by decide) ?_
    refine jp_goto 15 19 C d_Wi_isAttached_15 (by decide) ?_
    obtain rfl := Option.some.inj h
    exact jp_zret 19 (v := 1) C d_Wi_isAttached_19 rfl nb_1
set_option maxHeartbeats 4000000 in
set_option maxRecDepth 100000 in
theorem p_AR_hasLevel {Z : cz_Z} (l : Launch) (hI : jz_I (cz_G Z)) {a1 : Int32} {a2 : Int32} {m : jz_M} {r : Int32}  (h : f_AR_hasLevel a1 a2 m = some r) : jp_m l y_AR_hasLevel cd_AR_hasLevel rm_AR_hasLevel (cz_G Z) [.ref (gz_ad (cz_G Z) 0), .int a1, .int a2] m (some (.int r)) := by
  refine jp_met (own := R_AR) (by decide) rfl hI (Nat.le_of_ble_eq_true rfl) (fun X hX C => ?_)
  subst hX
  show jp_J X 3 _ [(0, .ref (gz_ad (cz_G Z) 0)), (1, .int a1), (2, .int a2)] 0 []
  unfold f_AR_hasLevel at h
  refine jp_iload_n 0 C d_AR_hasLevel_0 rfl ?_
  obtain ⟨v1_, ev1_, h⟩ := jz_b h
  refine jp_callS 1 [.int a2] C d_AR_hasLevel_1 (p_AR_isLevel (xz_l X) C.1.2.2.2.2.2.2.1  ev1_) sz_AR_isLevel tz_AR_isLevel lk_AR_147 (by decide) rfl rfl (Nat.le_of_ble_eq_true rfl) rfl ?_
  refine jp_if_eq 4 22 C d_AR_hasLevel_4 (by decide) (fun c2_ => ?_) (fun c2_ => ?_)
  · have h := jz_t c2_ h
    refine jp_iconst 22 0 C d_AR_hasLevel_22 (by decide) ?_
    obtain rfl := Option.some.inj h
    exact jp_zret 23 (v := 0) C d_AR_hasLevel_23 rfl nb_0
  · have h := jz_f c2_ h
    refine jp_aload_n 7 C d_AR_hasLevel_7 rfl ?_
    refine gp_AR_13 8 C d_AR_hasLevel_8 ?_
    refine jp_iload_n 11 C d_AR_hasLevel_11 rfl ?_
    obtain ⟨j3_, ej3_, h⟩ := jz_b h
    refine jp_iald 12 C d_AR_hasLevel_12 zk_AR_levelSets ej3_ ?_
    refine jp_iload_n 13 C d_AR_hasLevel_13 rfl ?_
    refine jp_iand 14 C d_AR_hasLevel_14 ?_
    refine jp_if_eq 15 22 C d_AR_hasLevel_15 (by decide) (fun c4_ => ?_) (fun c4_ => ?_)
    · have h := jz_t c4_ h
      refine jp_iconst 22 0 C d_AR_hasLevel_22 (by decide) ?_
      obtain rfl := Option.some.inj h
      exact jp_zret 23 (v := 0) C d_AR_hasLevel_23 rfl nb_0
    · have h := jz_f c4_ h
      refine jp_iconst 18 1 C d_AR_hasLevel_18 (by decide) ?_
      refine jp_goto 19 23 C d_AR_hasLevel_19 (by decide) ?_
      obtain rfl := Option.some.inj h
      exact jp_zret 23 (v := 1) C d_AR_hasLevel_23 rfl nb_1
set_option maxHeartbeats 4000000 in
set_option maxRecDepth 100000 in
theorem p_AR_checkSender {Z : cz_Z} (l : Launch) (hI : jz_I (cz_G Z)) {a1 : Int32} {a2 : Int32} {m : jz_M} {r : Unit}  (h : f_AR_checkSender a1 a2 m = some r) : jp_m l y_AR_checkSender cd_AR_checkSender rm_AR_checkSender (cz_G Z) [.ref (gz_ad (cz_G Z) 0), .int a1, .int a2] m none := by
  refine jp_met (own := R_AR) (by decide) rfl hI (Nat.le_of_ble_eq_true rfl) (fun X hX C => ?_)
  subst hX
  show jp_J X 3 _ [(0, .ref (gz_ad (cz_G Z) 0)), (1, .int a1), (2, .int a2)] 0 []
  unfold f_AR_checkSender at h
  refine jp_iload_n 0 C d_AR_checkSender_0 rfl ?_
  obtain ⟨v1_, ev1_, h⟩ := jz_b h
  refine jp_callS 1 [.int a1] C d_AR_checkSender_1 (p_AR_isRouter (xz_l X) C.1.2.2.2.2.2.2.1  ev1_) sz_AR_isRouter tz_AR_isRouter lk_AR_51 (by decide) rfl rfl (Nat.le_of_ble_eq_true rfl) rfl ?_
  refine jp_if_eq 4 14 C d_AR_checkSender_4 (by decide) (fun c2_ => ?_) (fun c2_ => ?_)
  · have h := jz_t c2_ h
    cases h
  · have h := jz_f c2_ h
    refine jp_iload_n 7 C d_AR_checkSender_7 rfl ?_
    obtain ⟨v3_, ev3_, h⟩ := jz_b h
    refine jp_callS 8 [.int a2] C d_AR_checkSender_8 (p_AR_isCircuit (xz_l X) C.1.2.2.2.2.2.2.1  ev3_) sz_AR_isCircuit tz_AR_isCircuit lk_AR_59 (by decide) rfl rfl (Nat.le_of_ble_eq_true rfl) rfl ?_
    refine jp_if_ne 11 24 C d_AR_checkSender_11 (by decide) (fun c4_ => ?_) (fun c4_ => ?_)
    · have h := jz_t c4_ h
      refine jp_aload_n 24 C d_AR_checkSender_24 rfl ?_
      refine gp_AR_19 25 C d_AR_checkSender_25 ?_
      refine jp_iload_n 28 C d_AR_checkSender_28 rfl ?_
      refine jp_iload_n 29 C d_AR_checkSender_29 rfl ?_
      obtain ⟨v5_, ev5_, h⟩ := jz_b h
      refine jp_callVN 30 [.int a1, .int a2] C d_AR_checkSender_30 (p_Wi_isAttached (xz_l X) C.1.2.2.2.2.2.2.1  ev5_) sz_Wi_isAttached tz_Wi_isAttached lk_AR_62 oz_Wi rfl (by decide) rfl rfl (Nat.le_of_ble_eq_true rfl) rfl ?_
      refine jp_if_ne 33 46 C d_AR_checkSender_33 (by decide) (fun c6_ => ?_) (fun c6_ => ?_)
      · have h := jz_t c6_ h
        clear h
        exact jp_vret 46 C d_AR_checkSender_46 rfl
      · have h := jz_f c6_ h
        cases h
    · have h := jz_f c4_ h
      cases h
