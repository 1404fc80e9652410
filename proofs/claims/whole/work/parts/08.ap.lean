/-! ===== part 08: the steps as rows to compute with ===== -/
def ap (i : Ins) (nx : Kt) (K : Kr) (pc : Nat) (ls : List (Nat × Value)) (st : List Value) (σ : St) : Prop := i nx K pc ls st σ
theorem run_s {cd : Nat → Ins} {stop : Nat → Bool} {base : Kt} {K : Kr} {f pc : Nat} {ls : List (Nat × Value)} {st : List Value} {σ : St} : run cd stop base K (f + 1) pc ls st σ = ap (cd pc) (nxt stop base (run cd stop base K f)) K pc ls st σ := rfl
theorem nxt_e {stop : Nat → Bool} {base r : Kt} {pc : Nat} {ls : List (Nat × Value)} {st : List Value} {σ : St} : nxt stop base r pc ls st σ = if stop pc = true then base pc ls st σ else r pc ls st σ := rfl
def ldI (nx : Kt) (pc : Nat) (ls : List (Nat × Value)) (st : List Value) (σ : St) : Option Value → Prop
  | some (.int x) => nx pc ls (.int x :: st) σ
  | _ => False
def ldL (nx : Kt) (pc : Nat) (ls : List (Nat × Value)) (st : List Value) (σ : St) : Option Value → Prop
  | some (.long x) => nx pc ls (.long x :: st) σ
  | _ => False
def ldA (nx : Kt) (pc : Nat) (ls : List (Nat × Value)) (st : List Value) (σ : St) : Option Value → Prop
  | some (.ref x) => nx pc ls (.ref x :: st) σ
  | _ => False
def inC (nx : Kt) (pc : Nat) (i : Nat) (d : Int32) (ls : List (Nat × Value)) (st : List Value) (σ : St) : Option Value → Prop
  | some (.int x) => nx pc (st1 i (.int (x + d)) ls) st σ
  | _ => False
theorem ldI_e {nx : Kt} {pc : Nat} {ls : List (Nat × Value)} {st : List Value} {σ : St} {x : Int32} : ldI nx pc ls st σ (some (.int x)) = nx pc ls (.int x :: st) σ := rfl
theorem ldL_e {nx : Kt} {pc : Nat} {ls : List (Nat × Value)} {st : List Value} {σ : St} {x : Int64} : ldL nx pc ls st σ (some (.long x)) = nx pc ls (.long x :: st) σ := rfl
theorem ldA_e {nx : Kt} {pc : Nat} {ls : List (Nat × Value)} {st : List Value} {σ : St} {x : Nat} : ldA nx pc ls st σ (some (.ref x)) = nx pc ls (.ref x :: st) σ := rfl
theorem inC_e {nx : Kt} {pc i : Nat} {d : Int32} {ls : List (Nat × Value)} {st : List Value} {σ : St} {x : Int32} : inC nx pc i d ls st σ (some (.int x)) = nx pc (st1 i (.int (x + d)) ls) st σ := rfl

theorem ap_const {nx : Kt} {K : Kr} {pc : Nat} {ls : List (Nat × Value)} {σ : St} {v : Int32} {n : Nat} {st : List Value} : ap (i_const v n) nx K pc ls st σ = (nx (pc + n) ls (.int v :: st) σ) := rfl
theorem ap_lconst {nx : Kt} {K : Kr} {pc : Nat} {ls : List (Nat × Value)} {σ : St} {v : Int64} {n : Nat} {st : List Value} : ap (i_lconst v n) nx K pc ls st σ = (nx (pc + n) ls (.long v :: st) σ) := rfl
theorem ap_ild {nx : Kt} {K : Kr} {pc : Nat} {ls : List (Nat × Value)} {σ : St} {i n : Nat} {st : List Value} : ap (i_ild i n) nx K pc ls st σ = (ldI nx (pc + n) ls st σ (lk i ls)) := by unfold ap i_ild ldI; rfl
theorem ap_lld {nx : Kt} {K : Kr} {pc : Nat} {ls : List (Nat × Value)} {σ : St} {i n : Nat} {st : List Value} : ap (i_lld i n) nx K pc ls st σ = (ldL nx (pc + n) ls st σ (lk i ls)) := by unfold ap i_lld ldL; rfl
theorem ap_ald {nx : Kt} {K : Kr} {pc : Nat} {ls : List (Nat × Value)} {σ : St} {i n : Nat} {st : List Value} : ap (i_ald i n) nx K pc ls st σ = (ldA nx (pc + n) ls st σ (lk i ls)) := by unfold ap i_ald ldA; rfl
theorem ap_ist {nx : Kt} {K : Kr} {pc : Nat} {ls : List (Nat × Value)} {σ : St} {i n : Nat} {x : Int32} {r : List Value} : ap (i_ist i n) nx K pc ls (.int x :: r) σ = (nx (pc + n) (st1 i (.int x) ls) r σ) := rfl
theorem ap_lst {nx : Kt} {K : Kr} {pc : Nat} {ls : List (Nat × Value)} {σ : St} {i n : Nat} {x : Int64} {r : List Value} : ap (i_lst i n) nx K pc ls (.long x :: r) σ = (nx (pc + n) (st2 i (.long x) ls) r σ) := rfl
theorem ap_ast {nx : Kt} {K : Kr} {pc : Nat} {ls : List (Nat × Value)} {σ : St} {i n : Nat} {x : Nat} {r : List Value} : ap (i_ast i n) nx K pc ls (.ref x :: r) σ = (nx (pc + n) (st1 i (.ref x) ls) r σ) := rfl
theorem ap_iinc {nx : Kt} {K : Kr} {pc : Nat} {ls : List (Nat × Value)} {σ : St} {i : Nat} {d : Int32} {st : List Value} : ap (i_iinc i d) nx K pc ls st σ = (inC nx (pc + 3) i d ls st σ (lk i ls)) := by unfold ap i_iinc inC; rfl
theorem ap_iadd {nx : Kt} {K : Kr} {pc : Nat} {ls : List (Nat × Value)} {σ : St} {x y : Int32} {r : List Value} : ap i_iadd nx K pc ls (.int y :: .int x :: r) σ = (nx (pc + 1) ls (.int (x + y) :: r) σ) := rfl
theorem ap_isub {nx : Kt} {K : Kr} {pc : Nat} {ls : List (Nat × Value)} {σ : St} {x y : Int32} {r : List Value} : ap i_isub nx K pc ls (.int y :: .int x :: r) σ = (nx (pc + 1) ls (.int (x - y) :: r) σ) := rfl
theorem ap_imul {nx : Kt} {K : Kr} {pc : Nat} {ls : List (Nat × Value)} {σ : St} {x y : Int32} {r : List Value} : ap i_imul nx K pc ls (.int y :: .int x :: r) σ = (nx (pc + 1) ls (.int (x * y) :: r) σ) := rfl
theorem ap_iand {nx : Kt} {K : Kr} {pc : Nat} {ls : List (Nat × Value)} {σ : St} {x y : Int32} {r : List Value} : ap i_iand nx K pc ls (.int y :: .int x :: r) σ = (nx (pc + 1) ls (.int (x &&& y) :: r) σ) := rfl
theorem ap_ior {nx : Kt} {K : Kr} {pc : Nat} {ls : List (Nat × Value)} {σ : St} {x y : Int32} {r : List Value} : ap i_ior nx K pc ls (.int y :: .int x :: r) σ = (nx (pc + 1) ls (.int (x ||| y) :: r) σ) := rfl
theorem ap_ixor {nx : Kt} {K : Kr} {pc : Nat} {ls : List (Nat × Value)} {σ : St} {x y : Int32} {r : List Value} : ap i_ixor nx K pc ls (.int y :: .int x :: r) σ = (nx (pc + 1) ls (.int (x ^^^ y) :: r) σ) := rfl
theorem ap_ishl {nx : Kt} {K : Kr} {pc : Nat} {ls : List (Nat × Value)} {σ : St} {x y : Int32} {r : List Value} : ap i_ishl nx K pc ls (.int y :: .int x :: r) σ = (nx (pc + 1) ls (.int (x <<< (y &&& 31)) :: r) σ) := rfl
theorem ap_ishr {nx : Kt} {K : Kr} {pc : Nat} {ls : List (Nat × Value)} {σ : St} {x y : Int32} {r : List Value} : ap i_ishr nx K pc ls (.int y :: .int x :: r) σ = (nx (pc + 1) ls (.int (x >>> (y &&& 31)) :: r) σ) := rfl
theorem ap_iushr {nx : Kt} {K : Kr} {pc : Nat} {ls : List (Nat × Value)} {σ : St} {x y : Int32} {r : List Value} : ap i_iushr nx K pc ls (.int y :: .int x :: r) σ = (nx (pc + 1) ls (.int ((x.toUInt32 >>> (y.toUInt32 &&& Int32.toUInt32 31)).toInt32) :: r) σ) := rfl
theorem ap_idiv {nx : Kt} {K : Kr} {pc : Nat} {ls : List (Nat × Value)} {σ : St} {x y : Int32} {r : List Value} : ap i_idiv nx K pc ls (.int y :: .int x :: r) σ = (¬ y = 0 ∧ nx (pc + 1) ls (.int (x / y) :: r) σ) := rfl
theorem ap_irem {nx : Kt} {K : Kr} {pc : Nat} {ls : List (Nat × Value)} {σ : St} {x y : Int32} {r : List Value} : ap i_irem nx K pc ls (.int y :: .int x :: r) σ = (¬ y = 0 ∧ nx (pc + 1) ls (.int (x - x / y * y) :: r) σ) := rfl
theorem ap_ineg {nx : Kt} {K : Kr} {pc : Nat} {ls : List (Nat × Value)} {σ : St} {x : Int32} {r : List Value} : ap i_ineg nx K pc ls (.int x :: r) σ = (nx (pc + 1) ls (.int (-x) :: r) σ) := rfl
theorem ap_ladd {nx : Kt} {K : Kr} {pc : Nat} {ls : List (Nat × Value)} {σ : St} {x y : Int64} {r : List Value} : ap i_ladd nx K pc ls (.long y :: .long x :: r) σ = (nx (pc + 1) ls (.long (x + y) :: r) σ) := rfl
theorem ap_lsub {nx : Kt} {K : Kr} {pc : Nat} {ls : List (Nat × Value)} {σ : St} {x y : Int64} {r : List Value} : ap i_lsub nx K pc ls (.long y :: .long x :: r) σ = (nx (pc + 1) ls (.long (x - y) :: r) σ) := rfl
theorem ap_lmul {nx : Kt} {K : Kr} {pc : Nat} {ls : List (Nat × Value)} {σ : St} {x y : Int64} {r : List Value} : ap i_lmul nx K pc ls (.long y :: .long x :: r) σ = (nx (pc + 1) ls (.long (x * y) :: r) σ) := rfl
theorem ap_ldiv {nx : Kt} {K : Kr} {pc : Nat} {ls : List (Nat × Value)} {σ : St} {x y : Int64} {r : List Value} : ap i_ldiv nx K pc ls (.long y :: .long x :: r) σ = (¬ y = 0 ∧ nx (pc + 1) ls (.long (x / y) :: r) σ) := rfl
theorem ap_lrem {nx : Kt} {K : Kr} {pc : Nat} {ls : List (Nat × Value)} {σ : St} {x y : Int64} {r : List Value} : ap i_lrem nx K pc ls (.long y :: .long x :: r) σ = (¬ y = 0 ∧ nx (pc + 1) ls (.long (x - x / y * y) :: r) σ) := rfl
theorem ap_lneg {nx : Kt} {K : Kr} {pc : Nat} {ls : List (Nat × Value)} {σ : St} {x : Int64} {r : List Value} : ap i_lneg nx K pc ls (.long x :: r) σ = (nx (pc + 1) ls (.long (-x) :: r) σ) := rfl
theorem ap_lcmp {nx : Kt} {K : Kr} {pc : Nat} {ls : List (Nat × Value)} {σ : St} {x y : Int64} {r : List Value} : ap i_lcmp nx K pc ls (.long y :: .long x :: r) σ = (nx (pc + 1) ls (.int (lg_cmp x y) :: r) σ) := rfl
theorem ap_i2l {nx : Kt} {K : Kr} {pc : Nat} {ls : List (Nat × Value)} {σ : St} {x : Int32} {r : List Value} : ap i_i2l nx K pc ls (.int x :: r) σ = (nx (pc + 1) ls (.long x.toInt64 :: r) σ) := rfl
theorem ap_l2i {nx : Kt} {K : Kr} {pc : Nat} {ls : List (Nat × Value)} {σ : St} {x : Int64} {r : List Value} : ap i_l2i nx K pc ls (.long x :: r) σ = (nx (pc + 1) ls (.int x.toInt32 :: r) σ) := rfl
theorem ap_i2b {nx : Kt} {K : Kr} {pc : Nat} {ls : List (Nat × Value)} {σ : St} {x : Int32} {r : List Value} : ap i_i2b nx K pc ls (.int x :: r) σ = (nx (pc + 1) ls (.int x.toInt8.toInt32 :: r) σ) := rfl
theorem ap_i2s {nx : Kt} {K : Kr} {pc : Nat} {ls : List (Nat × Value)} {σ : St} {x : Int32} {r : List Value} : ap i_i2s nx K pc ls (.int x :: r) σ = (nx (pc + 1) ls (.int x.toInt16.toInt32 :: r) σ) := rfl
theorem ap_dup_int {nx : Kt} {K : Kr} {pc : Nat} {ls : List (Nat × Value)} {σ : St} {x : Int32} {r : List Value} : ap i_dup nx K pc ls (.int x :: r) σ = (nx (pc + 1) ls (.int x :: .int x :: r) σ) := propext ⟨fun h => h.2, fun h => ⟨rfl, h⟩⟩
theorem ap_pop_int {nx : Kt} {K : Kr} {pc : Nat} {ls : List (Nat × Value)} {σ : St} {x : Int32} {r : List Value} : ap i_pop nx K pc ls (.int x :: r) σ = (nx (pc + 1) ls r σ) := propext ⟨fun h => h.2, fun h => ⟨rfl, h⟩⟩
theorem ap_dup_ref {nx : Kt} {K : Kr} {pc : Nat} {ls : List (Nat × Value)} {σ : St} {x : Nat} {r : List Value} : ap i_dup nx K pc ls (.ref x :: r) σ = (nx (pc + 1) ls (.ref x :: .ref x :: r) σ) := propext ⟨fun h => h.2, fun h => ⟨rfl, h⟩⟩
theorem ap_pop_ref {nx : Kt} {K : Kr} {pc : Nat} {ls : List (Nat × Value)} {σ : St} {x : Nat} {r : List Value} : ap i_pop nx K pc ls (.ref x :: r) σ = (nx (pc + 1) ls r σ) := propext ⟨fun h => h.2, fun h => ⟨rfl, h⟩⟩
theorem ap_dup2 {nx : Kt} {K : Kr} {pc : Nat} {ls : List (Nat × Value)} {σ : St} {x : Int32} {y : Nat} {r : List Value} : ap i_dup2 nx K pc ls (.int x :: .ref y :: r) σ = (nx (pc + 1) ls (.int x :: .ref y :: .int x :: .ref y :: r) σ) := propext ⟨fun h => h.2, fun h => ⟨⟨rfl, rfl⟩, h⟩⟩
theorem ap_ceq {nx : Kt} {K : Kr} {pc : Nat} {ls : List (Nat × Value)} {σ : St} {x y : Int32} {tgt : Nat} {r : List Value} : ap (i_ceq tgt) nx K pc ls (.int y :: .int x :: r) σ = ((x = y → nx tgt ls r σ) ∧ (¬ x = y → nx (pc + 3) ls r σ)) := rfl
theorem ap_cne {nx : Kt} {K : Kr} {pc : Nat} {ls : List (Nat × Value)} {σ : St} {x y : Int32} {tgt : Nat} {r : List Value} : ap (i_cne tgt) nx K pc ls (.int y :: .int x :: r) σ = ((¬ x = y → nx tgt ls r σ) ∧ (x = y → nx (pc + 3) ls r σ)) := rfl
theorem ap_clt {nx : Kt} {K : Kr} {pc : Nat} {ls : List (Nat × Value)} {σ : St} {x y : Int32} {tgt : Nat} {r : List Value} : ap (i_clt tgt) nx K pc ls (.int y :: .int x :: r) σ = ((x < y → nx tgt ls r σ) ∧ (¬ x < y → nx (pc + 3) ls r σ)) := rfl
theorem ap_cge {nx : Kt} {K : Kr} {pc : Nat} {ls : List (Nat × Value)} {σ : St} {x y : Int32} {tgt : Nat} {r : List Value} : ap (i_cge tgt) nx K pc ls (.int y :: .int x :: r) σ = ((y ≤ x → nx tgt ls r σ) ∧ (¬ y ≤ x → nx (pc + 3) ls r σ)) := rfl
theorem ap_cgt {nx : Kt} {K : Kr} {pc : Nat} {ls : List (Nat × Value)} {σ : St} {x y : Int32} {tgt : Nat} {r : List Value} : ap (i_cgt tgt) nx K pc ls (.int y :: .int x :: r) σ = ((y < x → nx tgt ls r σ) ∧ (¬ y < x → nx (pc + 3) ls r σ)) := rfl
theorem ap_cle {nx : Kt} {K : Kr} {pc : Nat} {ls : List (Nat × Value)} {σ : St} {x y : Int32} {tgt : Nat} {r : List Value} : ap (i_cle tgt) nx K pc ls (.int y :: .int x :: r) σ = ((x ≤ y → nx tgt ls r σ) ∧ (¬ x ≤ y → nx (pc + 3) ls r σ)) := rfl
theorem ap_zeq {nx : Kt} {K : Kr} {pc : Nat} {ls : List (Nat × Value)} {σ : St} {x : Int32} {tgt : Nat} {r : List Value} : ap (i_zeq tgt) nx K pc ls (.int x :: r) σ = ((x = 0 → nx tgt ls r σ) ∧ (¬ x = 0 → nx (pc + 3) ls r σ)) := rfl
theorem ap_zne {nx : Kt} {K : Kr} {pc : Nat} {ls : List (Nat × Value)} {σ : St} {x : Int32} {tgt : Nat} {r : List Value} : ap (i_zne tgt) nx K pc ls (.int x :: r) σ = ((¬ x = 0 → nx tgt ls r σ) ∧ (x = 0 → nx (pc + 3) ls r σ)) := rfl
theorem ap_zlt {nx : Kt} {K : Kr} {pc : Nat} {ls : List (Nat × Value)} {σ : St} {x : Int32} {tgt : Nat} {r : List Value} : ap (i_zlt tgt) nx K pc ls (.int x :: r) σ = ((x < 0 → nx tgt ls r σ) ∧ (¬ x < 0 → nx (pc + 3) ls r σ)) := rfl
theorem ap_zge {nx : Kt} {K : Kr} {pc : Nat} {ls : List (Nat × Value)} {σ : St} {x : Int32} {tgt : Nat} {r : List Value} : ap (i_zge tgt) nx K pc ls (.int x :: r) σ = ((0 ≤ x → nx tgt ls r σ) ∧ (¬ 0 ≤ x → nx (pc + 3) ls r σ)) := rfl
theorem ap_zgt {nx : Kt} {K : Kr} {pc : Nat} {ls : List (Nat × Value)} {σ : St} {x : Int32} {tgt : Nat} {r : List Value} : ap (i_zgt tgt) nx K pc ls (.int x :: r) σ = ((0 < x → nx tgt ls r σ) ∧ (¬ 0 < x → nx (pc + 3) ls r σ)) := rfl
theorem ap_zle {nx : Kt} {K : Kr} {pc : Nat} {ls : List (Nat × Value)} {σ : St} {x : Int32} {tgt : Nat} {r : List Value} : ap (i_zle tgt) nx K pc ls (.int x :: r) σ = ((x ≤ 0 → nx tgt ls r σ) ∧ (¬ x ≤ 0 → nx (pc + 3) ls r σ)) := rfl
theorem ap_goto {nx : Kt} {K : Kr} {pc : Nat} {ls : List (Nat × Value)} {σ : St} {tgt : Nat} {st : List Value} : ap (i_goto tgt) nx K pc ls st σ = (nx tgt ls st σ) := rfl
theorem ap_tsw {nx : Kt} {K : Kr} {pc : Nat} {ls : List (Nat × Value)} {σ : St} {x : Int32} {d : Nat} {ts : List Nat} {r : List Value} : ap (i_tsw d ts) nx K pc ls (.int x :: r) σ = (tsw (fun t => nx t ls r σ) x 0 ts ∧ ((x < 0 ∨ Int32.ofNat ts.length ≤ x) → nx d ls r σ)) := rfl
theorem ap_lsw {nx : Kt} {K : Kr} {pc : Nat} {ls : List (Nat × Value)} {σ : St} {x : Int32} {d : Nat} {ts : List (Int32 × Nat)} {r : List Value} : ap (i_lsw d ts) nx K pc ls (.int x :: r) σ = (lsw (fun t => nx t ls r σ) x d ts) := rfl
theorem ap_getI {nx : Kt} {K : Kr} {pc : Nat} {ls : List (Nat × Value)} {σ : St} {o ci k : Nat} {r : List Value} : ap (i_getI ci k) nx K pc ls (.ref o :: r) σ = (oc o = ci ∧ nx (pc + 3) ls (.int (σ.1 o k) :: r) σ) := rfl
theorem ap_getJ {nx : Kt} {K : Kr} {pc : Nat} {ls : List (Nat × Value)} {σ : St} {o ci k : Nat} {r : List Value} : ap (i_getJ ci k) nx K pc ls (.ref o :: r) σ = (oc o = ci ∧ nx (pc + 3) ls (.long (σ.2 o k) :: r) σ) := rfl
theorem ap_getR {nx : Kt} {K : Kr} {pc : Nat} {ls : List (Nat × Value)} {σ : St} {o ci d : Nat} {r : List Value} : ap (i_getR ci d) nx K pc ls (.ref o :: r) σ = (oc o = ci ∧ nx (pc + 3) ls (.ref (o + d) :: r) σ) := rfl
theorem ap_putI {nx : Kt} {K : Kr} {pc : Nat} {ls : List (Nat × Value)} {σ : St} {o ci k : Nat} {v : Int32} {r : List Value} : ap (i_putI ci k) nx K pc ls (.int v :: .ref o :: r) σ = (oc o = ci ∧ nx (pc + 3) ls r (si σ o k v)) := rfl
theorem ap_putZ {nx : Kt} {K : Kr} {pc : Nat} {ls : List (Nat × Value)} {σ : St} {o ci k : Nat} {v : Int32} {r : List Value} : ap (i_putZ ci k) nx K pc ls (.int v :: .ref o :: r) σ = (oc o = ci ∧ (v = 0 ∨ v = 1) ∧ nx (pc + 3) ls r (si σ o k v)) := rfl
theorem ap_putJ {nx : Kt} {K : Kr} {pc : Nat} {ls : List (Nat × Value)} {σ : St} {o ci k : Nat} {v : Int64} {r : List Value} : ap (i_putJ ci k) nx K pc ls (.long v :: .ref o :: r) σ = (oc o = ci ∧ nx (pc + 3) ls r (sj σ o k v)) := rfl
theorem ap_iald60 {nx : Kt} {K : Kr} {pc : Nat} {ls : List (Nat × Value)} {σ : St} {i : Int32} {r : List Value} : ap i_iald nx K pc ls (.int i :: .ref 60 :: r) σ = (vp_in i 8 ∧ nx (pc + 1) ls (.int (startf i.toNatClampNeg) :: r) σ) := rfl
theorem ap_iald {nx : Kt} {K : Kr} {pc : Nat} {ls : List (Nat × Value)} {σ : St} {o : Nat} {i : Int32} {r : List Value} : ap i_iald nx K pc ls (.int i :: .ref o :: r) σ = (vp_in i (lenI o) ∧ nx (pc + 1) ls (.int (if o = 60 then startf i.toNatClampNeg else σ.1 o i.toNatClampNeg) :: r) σ) := rfl
theorem ap_lald {nx : Kt} {K : Kr} {pc : Nat} {ls : List (Nat × Value)} {σ : St} {o : Nat} {i : Int32} {r : List Value} : ap i_lald nx K pc ls (.int i :: .ref o :: r) σ = (vp_in i (lenL o) ∧ nx (pc + 1) ls (.long (if o = 61 then factf i.toNatClampNeg else σ.2 o i.toNatClampNeg) :: r) σ) := rfl
theorem ap_bald {nx : Kt} {K : Kr} {pc : Nat} {ls : List (Nat × Value)} {σ : St} {o : Nat} {i : Int32} {r : List Value} : ap i_bald nx K pc ls (.int i :: .ref o :: r) σ = (vp_in i (lenZ o) ∧ nx (pc + 1) ls (.int (σ.1 o i.toNatClampNeg) :: r) σ) := rfl
theorem ap_aald {nx : Kt} {K : Kr} {pc : Nat} {ls : List (Nat × Value)} {σ : St} {o : Nat} {i : Int32} {r : List Value} : ap i_aald nx K pc ls (.int i :: .ref o :: r) σ = (o = 20 ∧ vp_in i 4 ∧ nx (pc + 1) ls (.ref (21 + i.toNatClampNeg) :: r) σ) := rfl
theorem ap_iast {nx : Kt} {K : Kr} {pc : Nat} {ls : List (Nat × Value)} {σ : St} {o : Nat} {i x : Int32} {r : List Value} : ap i_iast nx K pc ls (.int x :: .int i :: .ref o :: r) σ = (vp_in i (lenW o) ∧ nx (pc + 1) ls r (si σ o i.toNatClampNeg x)) := rfl
theorem ap_last {nx : Kt} {K : Kr} {pc : Nat} {ls : List (Nat × Value)} {σ : St} {o : Nat} {i : Int32} {x : Int64} {r : List Value} : ap i_last nx K pc ls (.long x :: .int i :: .ref o :: r) σ = (vp_in i (lenV o) ∧ nx (pc + 1) ls r (sj σ o i.toNatClampNeg x)) := rfl
theorem ap_bast {nx : Kt} {K : Kr} {pc : Nat} {ls : List (Nat × Value)} {σ : St} {o : Nat} {i x : Int32} {r : List Value} : ap i_bast nx K pc ls (.int x :: .int i :: .ref o :: r) σ = (vp_in i (lenZ o) ∧ nx (pc + 1) ls r (si σ o i.toNatClampNeg (vp_nar .boolean x))) := rfl
theorem ap_alen {nx : Kt} {K : Kr} {pc : Nat} {ls : List (Nat × Value)} {σ : St} {o : Nat} {r : List Value} : ap i_alen nx K pc ls (.ref o :: r) σ = (0 < lenW o ∧ nx (pc + 1) ls (.int (Int32.ofNat (lenW o)) :: r) σ) := rfl
theorem ap_gst {nx : Kt} {K : Kr} {pc : Nat} {ls : List (Nat × Value)} {σ : St} {o : Nat} {st : List Value} : ap (i_gst o) nx K pc ls st σ = (nx (pc + 3) ls (.ref o :: st) σ) := rfl
theorem ap_iret {nx : Kt} {K : Kr} {pc : Nat} {ls : List (Nat × Value)} {σ : St} {v : Int32} : ap i_iret nx K pc ls [.int v] σ = (K (some (.int v)) σ) := rfl
theorem ap_zret {nx : Kt} {K : Kr} {pc : Nat} {ls : List (Nat × Value)} {σ : St} {v : Int32} : ap i_zret nx K pc ls [.int v] σ = ((v = 0 ∨ v = 1) ∧ K (some (.int v)) σ) := rfl
theorem ap_lret {nx : Kt} {K : Kr} {pc : Nat} {ls : List (Nat × Value)} {σ : St} {v : Int64} : ap i_lret nx K pc ls [.long v] σ = (K (some (.long v)) σ) := rfl
theorem ap_vret {nx : Kt} {K : Kr} {pc : Nat} {ls : List (Nat × Value)} {σ : St}  : ap i_vret nx K pc ls [] σ = (K none σ) := rfl
theorem ap_aret {nx : Kt} {K : Kr} {pc : Nat} {ls : List (Nat × Value)} {σ : St} {v : Nat} : ap i_aret nx K pc ls [.ref v] σ = (K (some (.ref v)) σ) := rfl
theorem ap_lmax {nx : Kt} {K : Kr} {pc : Nat} {ls : List (Nat × Value)} {σ : St} {x y : Int64} {r : List Value} : ap i_lmax nx K pc ls (.long y :: .long x :: r) σ = (wsum r ≤ 8 ∧ nx (pc + 3) ls (.long (if y < x then x else y) :: r) σ) := rfl
theorem ap_labs {nx : Kt} {K : Kr} {pc : Nat} {ls : List (Nat × Value)} {σ : St} {x : Int64} {r : List Value} : ap i_labs nx K pc ls (.long x :: r) σ = (wsum r ≤ 8 ∧ nx (pc + 3) ls (.long (if 0 < x then x else -x) :: r) σ) := rfl
theorem ap_acopy {nx : Kt} {K : Kr} {pc : Nat} {ls : List (Nat × Value)} {σ : St} {n dp sp : Int32} {o0 o1 : Nat} {r : List Value} : ap i_acopy nx K pc ls (.int n :: .int dp :: .ref o1 :: .int sp :: .ref o0 :: r) σ = ((0 < lenW o0 ∧ 0 < lenW o1 ∧ ¬ sp < 0 ∧ ¬ dp < 0 ∧ ¬ n < 0 ∧ sp.toNatClampNeg + n.toNatClampNeg ≤ lenW o0 ∧ dp.toNatClampNeg + n.toNatClampNeg ≤ lenW o1 ∧ wsum r ≤ 8) ∧ nx (pc + 3) ls r (sa σ o1 (va_cpy (σ.1 o0) (σ.1 o1) sp.toNatClampNeg dp.toNatClampNeg n.toNatClampNeg))) := rfl
theorem ap_invV0 {nx : Kt} {K : Kr} {pc : Nat} {ls : List (Nat × Value)} {σ : St} {M : MD} {ci o : Nat} {r : List Value} : ap (i_invV M ci 0) nx K pc ls (.ref o :: r) σ = (oc o = ci ∧ wsum r ≤ 8 ∧ VM M [.ref o] σ (ctn nx (pc + 3) ls r)) := rfl
theorem ap_invS0 {nx : Kt} {K : Kr} {pc : Nat} {ls : List (Nat × Value)} {σ : St} {M : MD} {r : List Value} : ap (i_invS M 0) nx K pc ls r σ = (wsum r ≤ 8 ∧ VM M [] σ (ctn nx (pc + 3) ls r)) := rfl
theorem ap_invV1 {nx : Kt} {K : Kr} {pc : Nat} {ls : List (Nat × Value)} {σ : St} {M : MD} {ci o : Nat} {a : Value} {r : List Value} : ap (i_invV M ci 1) nx K pc ls (a :: .ref o :: r) σ = (oc o = ci ∧ wsum r ≤ 8 ∧ VM M [.ref o, a] σ (ctn nx (pc + 3) ls r)) := rfl
theorem ap_invS1 {nx : Kt} {K : Kr} {pc : Nat} {ls : List (Nat × Value)} {σ : St} {M : MD} {a : Value} {r : List Value} : ap (i_invS M 1) nx K pc ls (a :: r) σ = (wsum r ≤ 8 ∧ VM M [a] σ (ctn nx (pc + 3) ls r)) := rfl
theorem ap_invV2 {nx : Kt} {K : Kr} {pc : Nat} {ls : List (Nat × Value)} {σ : St} {M : MD} {ci o : Nat} {a b : Value} {r : List Value} : ap (i_invV M ci 2) nx K pc ls (b :: a :: .ref o :: r) σ = (oc o = ci ∧ wsum r ≤ 8 ∧ VM M [.ref o, a, b] σ (ctn nx (pc + 3) ls r)) := rfl
theorem ap_invS2 {nx : Kt} {K : Kr} {pc : Nat} {ls : List (Nat × Value)} {σ : St} {M : MD} {a b : Value} {r : List Value} : ap (i_invS M 2) nx K pc ls (b :: a :: r) σ = (wsum r ≤ 8 ∧ VM M [a, b] σ (ctn nx (pc + 3) ls r)) := rfl
theorem ap_invV3 {nx : Kt} {K : Kr} {pc : Nat} {ls : List (Nat × Value)} {σ : St} {M : MD} {ci o : Nat} {a b c : Value} {r : List Value} : ap (i_invV M ci 3) nx K pc ls (c :: b :: a :: .ref o :: r) σ = (oc o = ci ∧ wsum r ≤ 8 ∧ VM M [.ref o, a, b, c] σ (ctn nx (pc + 3) ls r)) := rfl
theorem ap_invS3 {nx : Kt} {K : Kr} {pc : Nat} {ls : List (Nat × Value)} {σ : St} {M : MD} {a b c : Value} {r : List Value} : ap (i_invS M 3) nx K pc ls (c :: b :: a :: r) σ = (wsum r ≤ 8 ∧ VM M [a, b, c] σ (ctn nx (pc + 3) ls r)) := rfl
theorem ap_invV4 {nx : Kt} {K : Kr} {pc : Nat} {ls : List (Nat × Value)} {σ : St} {M : MD} {ci o : Nat} {a b c d : Value} {r : List Value} : ap (i_invV M ci 4) nx K pc ls (d :: c :: b :: a :: .ref o :: r) σ = (oc o = ci ∧ wsum r ≤ 8 ∧ VM M [.ref o, a, b, c, d] σ (ctn nx (pc + 3) ls r)) := rfl
theorem ap_invS4 {nx : Kt} {K : Kr} {pc : Nat} {ls : List (Nat × Value)} {σ : St} {M : MD} {a b c d : Value} {r : List Value} : ap (i_invS M 4) nx K pc ls (d :: c :: b :: a :: r) σ = (wsum r ≤ 8 ∧ VM M [a, b, c, d] σ (ctn nx (pc + 3) ls r)) := rfl
theorem ap_invV5 {nx : Kt} {K : Kr} {pc : Nat} {ls : List (Nat × Value)} {σ : St} {M : MD} {ci o : Nat} {a b c d e : Value} {r : List Value} : ap (i_invV M ci 5) nx K pc ls (e :: d :: c :: b :: a :: .ref o :: r) σ = (oc o = ci ∧ wsum r ≤ 8 ∧ VM M [.ref o, a, b, c, d, e] σ (ctn nx (pc + 3) ls r)) := rfl
theorem ap_invS5 {nx : Kt} {K : Kr} {pc : Nat} {ls : List (Nat × Value)} {σ : St} {M : MD} {a b c d e : Value} {r : List Value} : ap (i_invS M 5) nx K pc ls (e :: d :: c :: b :: a :: r) σ = (wsum r ≤ 8 ∧ VM M [a, b, c, d, e] σ (ctn nx (pc + 3) ls r)) := rfl
theorem vpL {i : Int32} {n : Nat} (h : decide (¬ (i < 0 ∨ n ≤ i.toNatClampNeg)) = true) : vp_in i n = True := eq_true (show ¬ (i < 0 ∨ n ≤ i.toNatClampNeg) from of_decide_eq_true h)
theorem sa_1 {σ : St} {o a : Nat} {g : Nat → Int32} : (sa σ o g).1 a = if a = o then g else σ.1 a := rfl
theorem sa_2 {σ : St} {o : Nat} {g : Nat → Int32} : (sa σ o g).2 = σ.2 := rfl
theorem sL_1 {σ : St} {o : Nat} {g : Nat → Int64} : (sL σ o g).1 = σ.1 := rfl
theorem sL_2 {σ : St} {o a : Nat} {g : Nat → Int64} : (sL σ o g).2 a = if a = o then g else σ.2 a := rfl
theorem si_1 {σ : St} {o f a : Nat} {v : Int32} : (si σ o f v).1 a = if a = o then upd (σ.1 o) f v else σ.1 a := rfl
theorem si_2 {σ : St} {o f : Nat} {v : Int32} : (si σ o f v).2 = σ.2 := rfl
theorem sj_1 {σ : St} {o f : Nat} {v : Int64} : (sj σ o f v).1 = σ.1 := rfl
theorem sj_2 {σ : St} {o f a : Nat} {v : Int64} : (sj σ o f v).2 a = if a = o then vp_updL (σ.2 o) f v else σ.2 a := rfl
theorem sa_sa {σ : St} {o : Nat} {g g' : Nat → Int32} : sa (sa σ o g) o g' = sa σ o g' := by
  simp only [sa]
  congr 1
  funext a
  split <;> rfl
theorem sL_sL {σ : St} {o : Nat} {g g' : Nat → Int64} : sL (sL σ o g) o g' = sL σ o g' := by
  simp only [sL]
  congr 1
  funext a
  split <;> rfl
theorem si_sa {σ : St} {o f : Nat} {g : Nat → Int32} {v : Int32} : si (sa σ o g) o f v = sa σ o (upd g f v) := by
  unfold si
  rw [sa_sa, sa_at]
theorem sj_sL {σ : St} {o f : Nat} {g : Nat → Int64} {v : Int64} : sj (sL σ o g) o f v = sL σ o (vp_updL g f v) := by
  unfold sj
  rw [sL_sL, sL_at]
theorem sa_self {σ : St} {o : Nat} : sa σ o (σ.1 o) = σ := by
  obtain ⟨a, b⟩ := σ
  simp only [sa, Prod.mk.injEq, and_true]
  funext x
  split
  · rename_i h; rw [h]
  · rfl
theorem sL_self {σ : St} {o : Nat} : sL σ o (σ.2 o) = σ := by
  obtain ⟨a, b⟩ := σ
  simp only [sL, Prod.mk.injEq, true_and]
  funext x
  split
  · rename_i h; rw [h]
  · rfl

theorem tcnT : Int32.toNatClampNeg 0 = 0 ∧ Int32.toNatClampNeg 1 = 1 ∧ Int32.toNatClampNeg 2 = 2 ∧ Int32.toNatClampNeg 3 = 3 ∧ Int32.toNatClampNeg 4 = 4 ∧ Int32.toNatClampNeg 5 = 5 ∧ Int32.toNatClampNeg 6 = 6 ∧ Int32.toNatClampNeg 7 = 7 ∧ Int32.toNatClampNeg 8 = 8 ∧ Int32.toNatClampNeg 9 = 9 ∧ Int32.toNatClampNeg 10 = 10 ∧ Int32.toNatClampNeg 11 = 11 ∧ Int32.toNatClampNeg 12 = 12 := by decide
theorem ocT : oc 0 = 8 ∧ oc 1 = 7 ∧ oc 2 = 7 ∧ oc 5 = 5 ∧ oc 7 = 2 ∧ oc 12 = 0 ∧ oc 15 = 4 ∧ oc 18 = 1 ∧ oc 19 = 3 ∧ oc 21 = 6 ∧ oc 22 = 6 ∧ oc 23 = 6 ∧ oc 24 = 6 ∧ oc 35 = 9 := by decide
theorem lenIT : lenI 3 = 29 ∧ lenI 4 = 29 ∧ lenI 6 = 24 ∧ lenI 8 = 6 ∧ lenI 9 = 6 ∧ lenI 10 = 6 ∧ lenI 11 = 210 ∧ lenI 14 = 4 ∧ lenI 16 = 210 ∧ lenI 17 = 504 ∧ lenI 25 = 48 ∧ lenI 26 = 48 ∧ lenI 27 = 48 ∧ lenI 28 = 48 ∧ lenI 29 = 6 ∧ lenI 30 = 6 ∧ lenI 31 = 6 ∧ lenI 32 = 6 ∧ lenI 33 = 4 ∧ lenI 36 = 2 ∧ lenI 37 = 58 ∧ lenI 38 = 28 ∧ lenI 39 = 7 ∧ lenI 40 = 7 ∧ lenI 41 = 7 ∧ lenI 42 = 6 ∧ lenI 43 = 6 ∧ lenI 44 = 6 ∧ lenI 45 = 16807 ∧ lenI 49 = 6 ∧ lenI 50 = 3 ∧ lenI 52 = 4 ∧ lenI 53 = 4 ∧ lenI 54 = 192 ∧ lenI 55 = 48 ∧ lenI 60 = 8 := by decide
theorem lenWT : lenW 3 = 29 ∧ lenW 4 = 29 ∧ lenW 6 = 24 ∧ lenW 8 = 6 ∧ lenW 9 = 6 ∧ lenW 10 = 6 ∧ lenW 11 = 210 ∧ lenW 14 = 4 ∧ lenW 16 = 210 ∧ lenW 17 = 504 ∧ lenW 25 = 48 ∧ lenW 26 = 48 ∧ lenW 27 = 48 ∧ lenW 28 = 48 ∧ lenW 29 = 6 ∧ lenW 30 = 6 ∧ lenW 31 = 6 ∧ lenW 32 = 6 ∧ lenW 33 = 4 ∧ lenW 36 = 2 ∧ lenW 37 = 58 ∧ lenW 38 = 28 ∧ lenW 39 = 7 ∧ lenW 40 = 7 ∧ lenW 41 = 7 ∧ lenW 42 = 6 ∧ lenW 43 = 6 ∧ lenW 44 = 6 ∧ lenW 45 = 16807 ∧ lenW 49 = 6 ∧ lenW 50 = 3 ∧ lenW 52 = 4 ∧ lenW 53 = 4 ∧ lenW 54 = 192 ∧ lenW 55 = 48 := by decide
theorem lenLT : lenL 13 = 210 ∧ lenL 34 = 64 ∧ lenL 46 = 2401 ∧ lenL 47 = 2401 ∧ lenL 48 = 64 ∧ lenL 61 = 7 := by decide
theorem lenVT : lenV 13 = 210 ∧ lenV 34 = 64 ∧ lenV 46 = 2401 ∧ lenV 47 = 2401 ∧ lenV 48 = 64 := by decide
theorem lenZT : lenZ 51 = 4 := by decide
theorem startfT : startf 0 = 0 ∧ startf 1 = 1 ∧ startf 2 = 5 ∧ startf 3 = 15 ∧ startf 4 = 35 ∧ startf 5 = 70 ∧ startf 6 = 126 ∧ startf 7 = 210 := by decide
