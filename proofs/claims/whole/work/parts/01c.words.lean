/-- the tables' words that hold wherever a method is called -/
def z_W : List Cond := lw_tbl.filter goodWord
theorem gi_all {ws : List Cond} (h : ∀ w ∈ ws, w ∈ z_W) : GoodIn z_W ws := fun w hw => ⟨h w hw, good_of_word (List.mem_filter.mp (h w hw)).2⟩
theorem in_tb {w : Cond} (i : Nat) (h : lw_tbl[i]? = some w) (hg : goodWord w = true) : w ∈ z_W := List.mem_filter.mpr ⟨List.mem_of_getElem? h, hg⟩
def z_nest : List (String × Nat × MethodName × String) := [(RX10, 21, yX0_init, RX10), (RX10, 28, yX5_init, RX10), (RX10, 101, yX3_init, RX10), (RX10, 113, yX8_init, RX10), (RX1, 125, yX10_indexOfName, RX10), (RX6, 142, yX10_indexOfName, RX10), (RX2, 39, yX10_isWithin, RX10)]
def z_FL (own : String) (idx ci k : Nat) (ty : FieldType) (fin : Bool) : Prop := ∃ (C : String) (T : u_T) (N : Nat) (ty0 : Nat → FieldType), vwCl[ci]? = some (C, T, N) ∧ k < N ∧ Cond.fieldLink own idx (T k).1 (T k).2.1 (T k).2.2.1 ∈ z_W ∧ (∀ w ∈ u_ws C T N, w ∈ z_W) ∧ (∀ k, k < N → parseFieldDescriptor (T k).2.2.1 = some (ty0 k)) ∧ (∀ a, a < N → ∀ b, b < N → a ≠ b → (T a).2.1 ≠ (T b).2.1) ∧ ty0 k = ty ∧ (T k).2.2.2 = fin
/-- a method's name is one that can be called so -/
def z_nm (y : MethodName) (n : Nat) : Prop := y.cls ≠ "java/lang/invoke/MethodHandle" ∧ y.cls ≠ "java/lang/invoke/VarHandle" ∧ (parseMethodDescriptor y.desc).map (fun d => d.parameters.length) = some n
/-- the words of a call: of an instance's method, of a static one, of a nest mate's -/
def z_LV (own : String) (idx : Nat) (y : MethodName) (n : Nat) : Prop := Cond.methodLink own idx y ∈ z_W ∧ Cond.instanceMethod y ∈ z_W ∧ Cond.selects y.cls y y ∈ z_W ∧ Cond.initialized y.cls ∈ z_W ∧ z_nm y n
def z_LS (own : String) (idx : Nat) (y : MethodName) (n : Nat) : Prop := Cond.methodLink own idx y ∈ z_W ∧ Cond.static y ∈ z_W ∧ Cond.initialized y.cls ∈ z_W ∧ z_nm y n
def z_LN (own : String) (idx : Nat) (y : MethodName) (n : Nat) : Prop := (own, idx, y, RX10) ∈ z_nest ∧ Cond.static y ∈ z_W ∧ Cond.initialized y.cls ∈ z_W ∧ z_nm y n
