/-! THE LINKS: each word of the tables that a step asks for -/
def az_isN : Cond → Bool
  | .fieldLinkNest .. => true
  | .methodLinkNest .. => true
  | _ => false
def az_nest : List Cond := tables_1.filter az_isN
theorem az_inn {w : Cond} (i : Nat) (h : tables_1[i]? = some w) (g : az_isN w = true) : w ∈ az_nest := List.mem_filter.mpr ⟨List.mem_of_getElem? h, g⟩
def az_T : Nat → u_T
  | 0 => TX0
  | 1 => TX1
  | 2 => TX2
  | 3 => TX3
  | 4 => TX4
  | 5 => TX5
  | 6 => TX6
  | 7 => TX7
  | 8 => TX8
  | _ => fun k => match k with
    | 0 => ("java/lang/String", "value", "[B", true)
    | _ => ("java/lang/String", "coder", "B", true)
def az_flp (c k ci j : Nat) : Prop := Cond.fieldLink (az_own c) k (az_own ci) (az_T ci j).2.1 (az_T ci j).2.2.1 ∈ az_wg ∨ ∃ host, Cond.fieldLinkNest (az_own c) k (az_own ci) (az_T ci j).2.1 (az_T ci j).2.2.1 host ∈ az_nest
/-- a method: what the tables say of it; np: its parameters; st: whether it's static -/
def az_mp (M : az_M) (np : Nat) (st : Bool) : Prop := Cond.code (az_y M) (az_by M) (az_nl M) (az_rt M) ∈ az_wg ∧ Cond.initialized (az_y M).cls ∈ az_wg ∧ (parseMethodDescriptor (az_y M).desc).map (fun d => d.parameters.length) = some np ∧ (az_y M).cls = az_own M.1 ∧ (az_y M).cls ≠ "java/lang/invoke/MethodHandle" ∧ (az_y M).cls ≠ "java/lang/invoke/VarHandle" ∧ plainName (az_y M).cls = true ∧ (st = false → Cond.instanceMethod (az_y M) ∈ az_wg ∧ Cond.selects (az_y M).cls (az_y M) (az_y M) ∈ az_wg) ∧ (st = true → Cond.static (az_y M) ∈ az_wg) ∧ az_codeok M = true
def az_mlp (c k tag : Nat) (C : az_M) (na : Nat) : Prop := ∃ np st, az_mp C np st ∧ ((tag = 0 ∧ st = false ∧ na = np + 1 ∧ Cond.methodLink (az_own c) k (az_y C) ∈ az_wg) ∨ (tag = 1 ∧ st = false ∧ na = np + 1 ∧ ∃ host, Cond.methodLinkNest (az_own c) k (az_y C) host ∈ az_nest) ∨ (tag = 2 ∧ st = true ∧ na = np ∧ Cond.methodLink (az_own c) k (az_y C) ∈ az_wg) ∨ (tag = 3 ∧ st = true ∧ na = np ∧ ∃ host, Cond.methodLinkNest (az_own c) k (az_y C) host ∈ az_nest))
set_option maxRecDepth 100000 in
theorem az_inX0 : ∀ w ∈ wsX00, w ∈ az_wg := List.forall_mem_cons.mpr ⟨az_int 195 (by decide +kernel) rfl, List.forall_mem_cons.mpr ⟨az_int 197 (by decide +kernel) rfl, List.forall_mem_cons.mpr ⟨az_int 199 (by decide +kernel) rfl, List.forall_mem_cons.mpr ⟨az_int 201 (by decide +kernel) rfl, List.forall_mem_cons.mpr ⟨az_int 203 (by decide +kernel) rfl, List.forall_mem_cons.mpr ⟨az_int 205 (by decide +kernel) rfl, List.forall_mem_cons.mpr ⟨az_int 207 (by decide +kernel) rfl, List.forall_mem_cons.mpr ⟨az_int 209 (by decide +kernel) rfl, fun _ h => absurd h List.not_mem_nil⟩⟩⟩⟩⟩⟩⟩⟩
set_option maxRecDepth 100000 in
theorem az_inX1 : ∀ w ∈ wsX10, w ∈ az_wg := List.forall_mem_cons.mpr ⟨az_int 116 (by decide +kernel) rfl, List.forall_mem_cons.mpr ⟨az_int 118 (by decide +kernel) rfl, fun _ h => absurd h List.not_mem_nil⟩⟩
set_option maxRecDepth 100000 in
theorem az_inX2 : ∀ w ∈ wsX20, w ∈ az_wg := List.forall_mem_cons.mpr ⟨az_int 217 (by decide +kernel) rfl, List.forall_mem_cons.mpr ⟨az_int 219 (by decide +kernel) rfl, List.forall_mem_cons.mpr ⟨az_int 221 (by decide +kernel) rfl, List.forall_mem_cons.mpr ⟨az_int 223 (by decide +kernel) rfl, fun _ h => absurd h List.not_mem_nil⟩⟩⟩⟩
set_option maxRecDepth 100000 in
theorem az_inX3 : ∀ w ∈ wsX30, w ∈ az_wg := List.forall_mem_cons.mpr ⟨az_int 96 (by decide +kernel) rfl, List.forall_mem_cons.mpr ⟨az_int 98 (by decide +kernel) rfl, List.forall_mem_cons.mpr ⟨az_int 100 (by decide +kernel) rfl, List.forall_mem_cons.mpr ⟨az_int 102 (by decide +kernel) rfl, fun _ h => absurd h List.not_mem_nil⟩⟩⟩⟩
set_option maxRecDepth 100000 in
theorem az_inX4 : ∀ w ∈ wsX40, w ∈ az_wg := List.forall_mem_cons.mpr ⟨az_int 62 (by decide +kernel) rfl, List.forall_mem_cons.mpr ⟨az_int 64 (by decide +kernel) rfl, List.forall_mem_cons.mpr ⟨az_int 66 (by decide +kernel) rfl, List.forall_mem_cons.mpr ⟨az_int 68 (by decide +kernel) rfl, List.forall_mem_cons.mpr ⟨az_int 70 (by decide +kernel) rfl, List.forall_mem_cons.mpr ⟨az_int 72 (by decide +kernel) rfl, List.forall_mem_cons.mpr ⟨az_int 74 (by decide +kernel) rfl, fun _ h => absurd h List.not_mem_nil⟩⟩⟩⟩⟩⟩⟩
set_option maxRecDepth 100000 in
theorem az_inX5 : ∀ w ∈ wsX50, w ∈ az_wg := List.forall_mem_cons.mpr ⟨az_int 168 (by decide +kernel) rfl, List.forall_mem_cons.mpr ⟨az_int 170 (by decide +kernel) rfl, fun _ h => absurd h List.not_mem_nil⟩⟩
set_option maxRecDepth 100000 in
theorem az_inX6 : ∀ w ∈ wsX60, w ∈ az_wg := List.forall_mem_cons.mpr ⟨az_int 140 (by decide +kernel) rfl, List.forall_mem_cons.mpr ⟨az_int 142 (by decide +kernel) rfl, List.forall_mem_cons.mpr ⟨az_int 144 (by decide +kernel) rfl, List.forall_mem_cons.mpr ⟨az_int 146 (by decide +kernel) rfl, List.forall_mem_cons.mpr ⟨az_int 148 (by decide +kernel) rfl, List.forall_mem_cons.mpr ⟨az_int 150 (by decide +kernel) rfl, List.forall_mem_cons.mpr ⟨az_int 152 (by decide +kernel) rfl, List.forall_mem_cons.mpr ⟨az_int 154 (by decide +kernel) rfl, List.forall_mem_cons.mpr ⟨az_int 156 (by decide +kernel) rfl, fun _ h => absurd h List.not_mem_nil⟩⟩⟩⟩⟩⟩⟩⟩⟩
set_option maxRecDepth 100000 in
theorem az_inX7 : ∀ w ∈ wsX70, w ∈ az_wg := List.forall_mem_cons.mpr ⟨az_int 237 (by decide +kernel) rfl, List.forall_mem_cons.mpr ⟨az_int 239 (by decide +kernel) rfl, List.forall_mem_cons.mpr ⟨az_int 241 (by decide +kernel) rfl, List.forall_mem_cons.mpr ⟨az_int 243 (by decide +kernel) rfl, List.forall_mem_cons.mpr ⟨az_int 245 (by decide +kernel) rfl, List.forall_mem_cons.mpr ⟨az_int 247 (by decide +kernel) rfl, List.forall_mem_cons.mpr ⟨az_int 249 (by decide +kernel) rfl, List.forall_mem_cons.mpr ⟨az_int 251 (by decide +kernel) rfl, List.forall_mem_cons.mpr ⟨az_int 253 (by decide +kernel) rfl, List.forall_mem_cons.mpr ⟨az_int 255 (by decide +kernel) rfl, List.forall_mem_cons.mpr ⟨az_int 257 (by decide +kernel) rfl, fun _ h => absurd h List.not_mem_nil⟩⟩⟩⟩⟩⟩⟩⟩⟩⟩⟩
set_option maxRecDepth 100000 in
theorem az_inX8 : ∀ w ∈ wsX80, w ∈ az_wg := List.forall_mem_cons.mpr ⟨az_int 883 (by decide +kernel) rfl, List.forall_mem_cons.mpr ⟨az_int 885 (by decide +kernel) rfl, List.forall_mem_cons.mpr ⟨az_int 887 (by decide +kernel) rfl, List.forall_mem_cons.mpr ⟨az_int 889 (by decide +kernel) rfl, List.forall_mem_cons.mpr ⟨az_int 891 (by decide +kernel) rfl, List.forall_mem_cons.mpr ⟨az_int 893 (by decide +kernel) rfl, List.forall_mem_cons.mpr ⟨az_int 895 (by decide +kernel) rfl, List.forall_mem_cons.mpr ⟨az_int 897 (by decide +kernel) rfl, List.forall_mem_cons.mpr ⟨az_int 899 (by decide +kernel) rfl, List.forall_mem_cons.mpr ⟨az_int 901 (by decide +kernel) rfl, List.forall_mem_cons.mpr ⟨az_int 903 (by decide +kernel) rfl, List.forall_mem_cons.mpr ⟨az_int 905 (by decide +kernel) rfl, List.forall_mem_cons.mpr ⟨az_int 907 (by decide +kernel) rfl, List.forall_mem_cons.mpr ⟨az_int 909 (by decide +kernel) rfl, List.forall_mem_cons.mpr ⟨az_int 911 (by decide +kernel) rfl, List.forall_mem_cons.mpr ⟨az_int 913 (by decide +kernel) rfl, List.forall_mem_cons.mpr ⟨az_int 915 (by decide +kernel) rfl, List.forall_mem_cons.mpr ⟨az_int 917 (by decide +kernel) rfl, List.forall_mem_cons.mpr ⟨az_int 919 (by decide +kernel) rfl, List.forall_mem_cons.mpr ⟨az_int 921 (by decide +kernel) rfl, List.forall_mem_cons.mpr ⟨az_int 923 (by decide +kernel) rfl, List.forall_mem_cons.mpr ⟨az_int 925 (by decide +kernel) rfl, List.forall_mem_cons.mpr ⟨az_int 927 (by decide +kernel) rfl, List.forall_mem_cons.mpr ⟨az_int 929 (by decide +kernel) rfl, List.forall_mem_cons.mpr ⟨az_int 931 (by decide +kernel) rfl, List.forall_mem_cons.mpr ⟨az_int 933 (by decide +kernel) rfl, List.forall_mem_cons.mpr ⟨az_int 935 (by decide +kernel) rfl, fun _ h => absurd h List.not_mem_nil⟩⟩⟩⟩⟩⟩⟩⟩⟩⟩⟩⟩⟩⟩⟩⟩⟩⟩⟩⟩⟩⟩⟩⟩⟩⟩⟩
set_option maxRecDepth 100000 in
theorem az_fl_0_ok : ∀ q ∈ az_fl_0, az_flp 0 q.1 q.2.1 q.2.2 := List.forall_mem_cons.mpr ⟨Or.inl (az_int 185 (by decide +kernel) rfl), List.forall_mem_cons.mpr ⟨Or.inl (az_int 187 (by decide +kernel) rfl), List.forall_mem_cons.mpr ⟨Or.inl (az_int 188 (by decide +kernel) rfl), List.forall_mem_cons.mpr ⟨Or.inl (az_int 189 (by decide +kernel) rfl), List.forall_mem_cons.mpr ⟨Or.inl (az_int 190 (by decide +kernel) rfl), List.forall_mem_cons.mpr ⟨Or.inl (az_int 192 (by decide +kernel) rfl), List.forall_mem_cons.mpr ⟨Or.inl (az_int 193 (by decide +kernel) rfl), List.forall_mem_cons.mpr ⟨Or.inl (az_int 194 (by decide +kernel) rfl), fun _ h => absurd h List.not_mem_nil⟩⟩⟩⟩⟩⟩⟩⟩
set_option maxRecDepth 100000 in
theorem az_fl_1_ok : ∀ q ∈ az_fl_1, az_flp 1 q.1 q.2.1 q.2.2 := List.forall_mem_cons.mpr ⟨Or.inl (az_int 111 (by decide +kernel) rfl), List.forall_mem_cons.mpr ⟨Or.inl (az_int 113 (by decide +kernel) rfl), fun _ h => absurd h List.not_mem_nil⟩⟩
set_option maxRecDepth 100000 in
theorem az_fl_2_ok : ∀ q ∈ az_fl_2, az_flp 2 q.1 q.2.1 q.2.2 := List.forall_mem_cons.mpr ⟨Or.inl (az_int 212 (by decide +kernel) rfl), List.forall_mem_cons.mpr ⟨Or.inl (az_int 213 (by decide +kernel) rfl), List.forall_mem_cons.mpr ⟨Or.inl (az_int 215 (by decide +kernel) rfl), List.forall_mem_cons.mpr ⟨Or.inl (az_int 216 (by decide +kernel) rfl), List.forall_mem_cons.mpr ⟨Or.inr ⟨"GoodHalfEmpty", az_inn 186 (by decide +kernel) rfl⟩, List.forall_mem_cons.mpr ⟨Or.inr ⟨"GoodHalfEmpty", az_inn 191 (by decide +kernel) rfl⟩, List.forall_mem_cons.mpr ⟨Or.inr ⟨"GoodHalfEmpty", az_inn 59 (by decide +kernel) rfl⟩, List.forall_mem_cons.mpr ⟨Or.inr ⟨"GoodHalfEmpty", az_inn 52 (by decide +kernel) rfl⟩, List.forall_mem_cons.mpr ⟨Or.inr ⟨"GoodHalfEmpty", az_inn 48 (by decide +kernel) rfl⟩, List.forall_mem_cons.mpr ⟨Or.inr ⟨"GoodHalfEmpty", az_inn 38 (by decide +kernel) rfl⟩, List.forall_mem_cons.mpr ⟨Or.inr ⟨"GoodHalfEmpty", az_inn 56 (by decide +kernel) rfl⟩, fun _ h => absurd h List.not_mem_nil⟩⟩⟩⟩⟩⟩⟩⟩⟩⟩⟩
set_option maxRecDepth 100000 in
theorem az_fl_3_ok : ∀ q ∈ az_fl_3, az_flp 3 q.1 q.2.1 q.2.2 := List.forall_mem_cons.mpr ⟨Or.inl (az_int 84 (by decide +kernel) rfl), List.forall_mem_cons.mpr ⟨Or.inl (az_int 87 (by decide +kernel) rfl), List.forall_mem_cons.mpr ⟨Or.inl (az_int 90 (by decide +kernel) rfl), List.forall_mem_cons.mpr ⟨Or.inl (az_int 93 (by decide +kernel) rfl), fun _ h => absurd h List.not_mem_nil⟩⟩⟩⟩
set_option maxRecDepth 100000 in
theorem az_fl_4_ok : ∀ q ∈ az_fl_4, az_flp 4 q.1 q.2.1 q.2.2 := List.forall_mem_cons.mpr ⟨Or.inl (az_int 36 (by decide +kernel) rfl), List.forall_mem_cons.mpr ⟨Or.inl (az_int 40 (by decide +kernel) rfl), List.forall_mem_cons.mpr ⟨Or.inl (az_int 43 (by decide +kernel) rfl), List.forall_mem_cons.mpr ⟨Or.inl (az_int 46 (by decide +kernel) rfl), List.forall_mem_cons.mpr ⟨Or.inl (az_int 50 (by decide +kernel) rfl), List.forall_mem_cons.mpr ⟨Or.inl (az_int 54 (by decide +kernel) rfl), List.forall_mem_cons.mpr ⟨Or.inl (az_int 58 (by decide +kernel) rfl), fun _ h => absurd h List.not_mem_nil⟩⟩⟩⟩⟩⟩⟩
set_option maxRecDepth 100000 in
theorem az_fl_5_ok : ∀ q ∈ az_fl_5, az_flp 5 q.1 q.2.1 q.2.2 := List.forall_mem_cons.mpr ⟨Or.inl (az_int 165 (by decide +kernel) rfl), List.forall_mem_cons.mpr ⟨Or.inl (az_int 166 (by decide +kernel) rfl), List.forall_mem_cons.mpr ⟨Or.inr ⟨"GoodHalfEmpty", az_inn 126 (by decide +kernel) rfl⟩, List.forall_mem_cons.mpr ⟨Or.inr ⟨"GoodHalfEmpty", az_inn 123 (by decide +kernel) rfl⟩, fun _ h => absurd h List.not_mem_nil⟩⟩⟩⟩
set_option maxRecDepth 100000 in
theorem az_fl_6_ok : ∀ q ∈ az_fl_6, az_flp 6 q.1 q.2.1 q.2.2 := List.forall_mem_cons.mpr ⟨Or.inl (az_int 121 (by decide +kernel) rfl), List.forall_mem_cons.mpr ⟨Or.inl (az_int 124 (by decide +kernel) rfl), List.forall_mem_cons.mpr ⟨Or.inl (az_int 127 (by decide +kernel) rfl), List.forall_mem_cons.mpr ⟨Or.inl (az_int 129 (by decide +kernel) rfl), List.forall_mem_cons.mpr ⟨Or.inl (az_int 131 (by decide +kernel) rfl), List.forall_mem_cons.mpr ⟨Or.inl (az_int 133 (by decide +kernel) rfl), List.forall_mem_cons.mpr ⟨Or.inl (az_int 135 (by decide +kernel) rfl), List.forall_mem_cons.mpr ⟨Or.inl (az_int 136 (by decide +kernel) rfl), List.forall_mem_cons.mpr ⟨Or.inl (az_int 138 (by decide +kernel) rfl), List.forall_mem_cons.mpr ⟨Or.inr ⟨"GoodHalfEmpty", az_inn 112 (by decide +kernel) rfl⟩, List.forall_mem_cons.mpr ⟨Or.inr ⟨"GoodHalfEmpty", az_inn 114 (by decide +kernel) rfl⟩, List.forall_mem_cons.mpr ⟨Or.inr ⟨"GoodHalfEmpty", az_inn 94 (by decide +kernel) rfl⟩, List.forall_mem_cons.mpr ⟨Or.inr ⟨"GoodHalfEmpty", az_inn 86 (by decide +kernel) rfl⟩, List.forall_mem_cons.mpr ⟨Or.inr ⟨"GoodHalfEmpty", az_inn 89 (by decide +kernel) rfl⟩, List.forall_mem_cons.mpr ⟨Or.inr ⟨"GoodHalfEmpty", az_inn 60 (by decide +kernel) rfl⟩, List.forall_mem_cons.mpr ⟨Or.inr ⟨"GoodHalfEmpty", az_inn 42 (by decide +kernel) rfl⟩, List.forall_mem_cons.mpr ⟨Or.inr ⟨"GoodHalfEmpty", az_inn 39 (by decide +kernel) rfl⟩, List.forall_mem_cons.mpr ⟨Or.inr ⟨"GoodHalfEmpty", az_inn 45 (by decide +kernel) rfl⟩, List.forall_mem_cons.mpr ⟨Or.inr ⟨"GoodHalfEmpty", az_inn 92 (by decide +kernel) rfl⟩, List.forall_mem_cons.mpr ⟨Or.inr ⟨"GoodHalfEmpty", az_inn 57 (by decide +kernel) rfl⟩, List.forall_mem_cons.mpr ⟨Or.inr ⟨"GoodHalfEmpty", az_inn 49 (by decide +kernel) rfl⟩, List.forall_mem_cons.mpr ⟨Or.inr ⟨"GoodHalfEmpty", az_inn 53 (by decide +kernel) rfl⟩, fun _ h => absurd h List.not_mem_nil⟩⟩⟩⟩⟩⟩⟩⟩⟩⟩⟩⟩⟩⟩⟩⟩⟩⟩⟩⟩⟩⟩
set_option maxRecDepth 100000 in
theorem az_fl_7_ok : ∀ q ∈ az_fl_7, az_flp 7 q.1 q.2.1 q.2.2 := List.forall_mem_cons.mpr ⟨Or.inl (az_int 226 (by decide +kernel) rfl), List.forall_mem_cons.mpr ⟨Or.inl (az_int 227 (by decide +kernel) rfl), List.forall_mem_cons.mpr ⟨Or.inl (az_int 228 (by decide +kernel) rfl), List.forall_mem_cons.mpr ⟨Or.inl (az_int 229 (by decide +kernel) rfl), List.forall_mem_cons.mpr ⟨Or.inl (az_int 230 (by decide +kernel) rfl), List.forall_mem_cons.mpr ⟨Or.inl (az_int 231 (by decide +kernel) rfl), List.forall_mem_cons.mpr ⟨Or.inl (az_int 232 (by decide +kernel) rfl), List.forall_mem_cons.mpr ⟨Or.inl (az_int 233 (by decide +kernel) rfl), List.forall_mem_cons.mpr ⟨Or.inl (az_int 234 (by decide +kernel) rfl), List.forall_mem_cons.mpr ⟨Or.inl (az_int 235 (by decide +kernel) rfl), List.forall_mem_cons.mpr ⟨Or.inl (az_int 236 (by decide +kernel) rfl), List.forall_mem_cons.mpr ⟨Or.inr ⟨"GoodHalfEmpty", az_inn 167 (by decide +kernel) rfl⟩, List.forall_mem_cons.mpr ⟨Or.inr ⟨"GoodHalfEmpty", az_inn 122 (by decide +kernel) rfl⟩, List.forall_mem_cons.mpr ⟨Or.inr ⟨"GoodHalfEmpty", az_inn 37 (by decide +kernel) rfl⟩, List.forall_mem_cons.mpr ⟨Or.inr ⟨"GoodHalfEmpty", az_inn 41 (by decide +kernel) rfl⟩, List.forall_mem_cons.mpr ⟨Or.inr ⟨"GoodHalfEmpty", az_inn 44 (by decide +kernel) rfl⟩, List.forall_mem_cons.mpr ⟨Or.inr ⟨"GoodHalfEmpty", az_inn 47 (by decide +kernel) rfl⟩, List.forall_mem_cons.mpr ⟨Or.inr ⟨"GoodHalfEmpty", az_inn 51 (by decide +kernel) rfl⟩, List.forall_mem_cons.mpr ⟨Or.inr ⟨"GoodHalfEmpty", az_inn 55 (by decide +kernel) rfl⟩, List.forall_mem_cons.mpr ⟨Or.inr ⟨"GoodHalfEmpty", az_inn 125 (by decide +kernel) rfl⟩, List.forall_mem_cons.mpr ⟨Or.inr ⟨"GoodHalfEmpty", az_inn 85 (by decide +kernel) rfl⟩, List.forall_mem_cons.mpr ⟨Or.inr ⟨"GoodHalfEmpty", az_inn 88 (by decide +kernel) rfl⟩, List.forall_mem_cons.mpr ⟨Or.inr ⟨"GoodHalfEmpty", az_inn 91 (by decide +kernel) rfl⟩, List.forall_mem_cons.mpr ⟨Or.inr ⟨"GoodHalfEmpty", az_inn 132 (by decide +kernel) rfl⟩, List.forall_mem_cons.mpr ⟨Or.inr ⟨"GoodHalfEmpty", az_inn 139 (by decide +kernel) rfl⟩, List.forall_mem_cons.mpr ⟨Or.inr ⟨"GoodHalfEmpty", az_inn 137 (by decide +kernel) rfl⟩, List.forall_mem_cons.mpr ⟨Or.inr ⟨"GoodHalfEmpty", az_inn 130 (by decide +kernel) rfl⟩, List.forall_mem_cons.mpr ⟨Or.inr ⟨"GoodHalfEmpty", az_inn 214 (by decide +kernel) rfl⟩, List.forall_mem_cons.mpr ⟨Or.inr ⟨"GoodHalfEmpty", az_inn 61 (by decide +kernel) rfl⟩, List.forall_mem_cons.mpr ⟨Or.inr ⟨"GoodHalfEmpty", az_inn 134 (by decide +kernel) rfl⟩, List.forall_mem_cons.mpr ⟨Or.inr ⟨"GoodHalfEmpty", az_inn 95 (by decide +kernel) rfl⟩, List.forall_mem_cons.mpr ⟨Or.inr ⟨"GoodHalfEmpty", az_inn 128 (by decide +kernel) rfl⟩, List.forall_mem_cons.mpr ⟨Or.inr ⟨"GoodHalfEmpty", az_inn 115 (by decide +kernel) rfl⟩, fun _ h => absurd h List.not_mem_nil⟩⟩⟩⟩⟩⟩⟩⟩⟩⟩⟩⟩⟩⟩⟩⟩⟩⟩⟩⟩⟩⟩⟩⟩⟩⟩⟩⟩⟩⟩⟩⟩⟩
set_option maxRecDepth 100000 in
theorem az_fl_8_ok : ∀ q ∈ az_fl_8, az_flp 8 q.1 q.2.1 q.2.2 := List.forall_mem_cons.mpr ⟨Or.inl (az_int 856 (by decide +kernel) rfl), List.forall_mem_cons.mpr ⟨Or.inl (az_int 860 (by decide +kernel) rfl), List.forall_mem_cons.mpr ⟨Or.inl (az_int 857 (by decide +kernel) rfl), List.forall_mem_cons.mpr ⟨Or.inl (az_int 858 (by decide +kernel) rfl), List.forall_mem_cons.mpr ⟨Or.inl (az_int 859 (by decide +kernel) rfl), List.forall_mem_cons.mpr ⟨Or.inl (az_int 861 (by decide +kernel) rfl), List.forall_mem_cons.mpr ⟨Or.inl (az_int 865 (by decide +kernel) rfl), List.forall_mem_cons.mpr ⟨Or.inl (az_int 866 (by decide +kernel) rfl), List.forall_mem_cons.mpr ⟨Or.inl (az_int 867 (by decide +kernel) rfl), List.forall_mem_cons.mpr ⟨Or.inl (az_int 869 (by decide +kernel) rfl), List.forall_mem_cons.mpr ⟨Or.inl (az_int 870 (by decide +kernel) rfl), List.forall_mem_cons.mpr ⟨Or.inl (az_int 871 (by decide +kernel) rfl), List.forall_mem_cons.mpr ⟨Or.inl (az_int 872 (by decide +kernel) rfl), List.forall_mem_cons.mpr ⟨Or.inl (az_int 873 (by decide +kernel) rfl), List.forall_mem_cons.mpr ⟨Or.inl (az_int 880 (by decide +kernel) rfl), List.forall_mem_cons.mpr ⟨Or.inl (az_int 881 (by decide +kernel) rfl), List.forall_mem_cons.mpr ⟨Or.inl (az_int 862 (by decide +kernel) rfl), List.forall_mem_cons.mpr ⟨Or.inl (az_int 864 (by decide +kernel) rfl), List.forall_mem_cons.mpr ⟨Or.inl (az_int 863 (by decide +kernel) rfl), List.forall_mem_cons.mpr ⟨Or.inl (az_int 868 (by decide +kernel) rfl), List.forall_mem_cons.mpr ⟨Or.inl (az_int 874 (by decide +kernel) rfl), List.forall_mem_cons.mpr ⟨Or.inl (az_int 879 (by decide +kernel) rfl), List.forall_mem_cons.mpr ⟨Or.inl (az_int 877 (by decide +kernel) rfl), List.forall_mem_cons.mpr ⟨Or.inl (az_int 878 (by decide +kernel) rfl), List.forall_mem_cons.mpr ⟨Or.inl (az_int 876 (by decide +kernel) rfl), List.forall_mem_cons.mpr ⟨Or.inl (az_int 875 (by decide +kernel) rfl), List.forall_mem_cons.mpr ⟨Or.inl (az_int 882 (by decide +kernel) rfl), fun _ h => absurd h List.not_mem_nil⟩⟩⟩⟩⟩⟩⟩⟩⟩⟩⟩⟩⟩⟩⟩⟩⟩⟩⟩⟩⟩⟩⟩⟩⟩⟩⟩
set_option maxRecDepth 100000 in
theorem az_fl_9_ok : ∀ q ∈ az_fl_9, az_flp 9 q.1 q.2.1 q.2.2 := List.forall_mem_cons.mpr ⟨Or.inl (az_int 1166 (by decide +kernel) rfl), List.forall_mem_cons.mpr ⟨Or.inl (az_int 1167 (by decide +kernel) rfl), fun _ h => absurd h List.not_mem_nil⟩⟩
theorem az_fl_ok {c k ci j : Nat} (h : az_fl c k = some (ci, j)) : az_flp c k ci j := by
  unfold az_fl at h
  split at h
  · exact az_fl_0_ok _ (az_pool_in h)
  · exact az_fl_1_ok _ (az_pool_in h)
  · exact az_fl_2_ok _ (az_pool_in h)
  · exact az_fl_3_ok _ (az_pool_in h)
  · exact az_fl_4_ok _ (az_pool_in h)
  · exact az_fl_5_ok _ (az_pool_in h)
  · exact az_fl_6_ok _ (az_pool_in h)
  · exact az_fl_7_ok _ (az_pool_in h)
  · exact az_fl_8_ok _ (az_pool_in h)
  · exact az_fl_9_ok _ (az_pool_in h)
  · cases h
set_option maxRecDepth 100000 in
theorem az_mp_X0_begin : az_mp az_m_X0_begin 2 false := ⟨az_int 691 (by decide +kernel) rfl, az_int 8 (by decide +kernel) rfl, by decide +kernel, rfl, by decide +kernel, by decide +kernel, by decide +kernel, fun _ => ⟨az_int 690 (by decide +kernel) rfl, az_ins 50 (by decide +kernel) rfl⟩, fun h => absurd h (by decide), az_co_X0_begin⟩
set_option maxRecDepth 100000 in
theorem az_mp_X0_add : az_mp az_m_X0_add 5 false := ⟨az_int 696 (by decide +kernel) rfl, az_int 8 (by decide +kernel) rfl, by decide +kernel, rfl, by decide +kernel, by decide +kernel, by decide +kernel, fun _ => ⟨az_int 695 (by decide +kernel) rfl, az_ins 51 (by decide +kernel) rfl⟩, fun h => absurd h (by decide), az_co_X0_add⟩
set_option maxRecDepth 100000 in
theorem az_mp_X0_hasPlan : az_mp az_m_X0_hasPlan 0 false := ⟨az_int 706 (by decide +kernel) rfl, az_int 8 (by decide +kernel) rfl, by decide +kernel, rfl, by decide +kernel, by decide +kernel, by decide +kernel, fun _ => ⟨az_int 705 (by decide +kernel) rfl, az_ins 53 (by decide +kernel) rfl⟩, fun h => absurd h (by decide), az_co_X0_hasPlan⟩
set_option maxRecDepth 100000 in
theorem az_mp_X0_plans : az_mp az_m_X0_plans 0 false := ⟨az_int 702 (by decide +kernel) rfl, az_int 8 (by decide +kernel) rfl, by decide +kernel, rfl, by decide +kernel, by decide +kernel, by decide +kernel, fun _ => ⟨az_int 701 (by decide +kernel) rfl, az_ins 52 (by decide +kernel) rfl⟩, fun h => absurd h (by decide), az_co_X0_plans⟩
set_option maxRecDepth 100000 in
theorem az_mp_X0_countWays : az_mp az_m_X0_countWays 0 false := ⟨az_int 711 (by decide +kernel) rfl, az_int 8 (by decide +kernel) rfl, by decide +kernel, rfl, by decide +kernel, by decide +kernel, by decide +kernel, fun _ => ⟨az_int 710 (by decide +kernel) rfl, az_ins 54 (by decide +kernel) rfl⟩, fun h => absurd h (by decide), az_co_X0_countWays⟩
set_option maxRecDepth 100000 in
theorem az_mp_X0_greatestWorth : az_mp az_m_X0_greatestWorth 0 false := ⟨az_int 735 (by decide +kernel) rfl, az_int 8 (by decide +kernel) rfl, by decide +kernel, rfl, by decide +kernel, by decide +kernel, by decide +kernel, fun _ => ⟨az_int 734 (by decide +kernel) rfl, az_ins 58 (by decide +kernel) rfl⟩, fun h => absurd h (by decide), az_co_X0_greatestWorth⟩
set_option maxRecDepth 100000 in
theorem az_mp_X0_greatestGain : az_mp az_m_X0_greatestGain 1 false := ⟨az_int 739 (by decide +kernel) rfl, az_int 8 (by decide +kernel) rfl, by decide +kernel, rfl, by decide +kernel, by decide +kernel, by decide +kernel, fun _ => ⟨az_int 738 (by decide +kernel) rfl, az_ins 59 (by decide +kernel) rfl⟩, fun h => absurd h (by decide), az_co_X0_greatestGain⟩
set_option maxRecDepth 100000 in
theorem az_mp_X0_keepFirst : az_mp az_m_X0_keepFirst 1 false := ⟨az_int 730 (by decide +kernel) rfl, az_int 8 (by decide +kernel) rfl, by decide +kernel, rfl, by decide +kernel, by decide +kernel, by decide +kernel, fun _ => ⟨az_int 729 (by decide +kernel) rfl, az_ins 57 (by decide +kernel) rfl⟩, fun h => absurd h (by decide), az_co_X0_keepFirst⟩
set_option maxRecDepth 100000 in
theorem az_mp_X1_copyFrom : az_mp az_m_X1_copyFrom 1 false := ⟨az_int 308 (by decide +kernel) rfl, az_int 5 (by decide +kernel) rfl, by decide +kernel, rfl, by decide +kernel, by decide +kernel, by decide +kernel, fun _ => ⟨az_int 307 (by decide +kernel) rfl, az_ins 5 (by decide +kernel) rfl⟩, fun h => absurd h (by decide), az_co_X1_copyFrom⟩
set_option maxRecDepth 100000 in
theorem az_mp_X1_add : az_mp az_m_X1_add 1 false := ⟨az_int 481 (by decide +kernel) rfl, az_int 5 (by decide +kernel) rfl, by decide +kernel, rfl, by decide +kernel, by decide +kernel, by decide +kernel, fun _ => ⟨az_int 480 (by decide +kernel) rfl, az_ins 19 (by decide +kernel) rfl⟩, fun h => absurd h (by decide), az_co_X1_add⟩
set_option maxRecDepth 100000 in
theorem az_mp_X2_restingPlans : az_mp az_m_X2_restingPlans 3 false := ⟨az_int 679 (by decide +kernel) rfl, az_int 7 (by decide +kernel) rfl, by decide +kernel, rfl, by decide +kernel, by decide +kernel, by decide +kernel, fun _ => ⟨az_int 678 (by decide +kernel) rfl, az_ins 47 (by decide +kernel) rfl⟩, fun h => absurd h (by decide), az_co_X2_restingPlans⟩
set_option maxRecDepth 100000 in
theorem az_mp_X2_findFirstResting : az_mp az_m_X2_findFirstResting 3 false := ⟨az_int 720 (by decide +kernel) rfl, az_int 7 (by decide +kernel) rfl, by decide +kernel, rfl, by decide +kernel, by decide +kernel, by decide +kernel, fun _ => ⟨az_int 719 (by decide +kernel) rfl, az_ins 55 (by decide +kernel) rfl⟩, fun h => absurd h (by decide), az_co_X2_findFirstResting⟩
set_option maxRecDepth 100000 in
theorem az_mp_X2_bestRestingWorth : az_mp az_m_X2_bestRestingWorth 3 false := ⟨az_int 775 (by decide +kernel) rfl, az_int 7 (by decide +kernel) rfl, by decide +kernel, rfl, by decide +kernel, by decide +kernel, by decide +kernel, fun _ => ⟨az_int 774 (by decide +kernel) rfl, az_ins 65 (by decide +kernel) rfl⟩, fun h => absurd h (by decide), az_co_X2_bestRestingWorth⟩
set_option maxRecDepth 100000 in
theorem az_mp_X2_bestWorth : az_mp az_m_X2_bestWorth 3 false := ⟨az_int 756 (by decide +kernel) rfl, az_int 7 (by decide +kernel) rfl, by decide +kernel, rfl, by decide +kernel, by decide +kernel, by decide +kernel, fun _ => ⟨az_int 755 (by decide +kernel) rfl, az_ins 62 (by decide +kernel) rfl⟩, fun h => absurd h (by decide), az_co_X2_bestWorth⟩
set_option maxRecDepth 100000 in
theorem az_mp_X2_findFirstBest : az_mp az_m_X2_findFirstBest 3 false := ⟨az_int 766 (by decide +kernel) rfl, az_int 7 (by decide +kernel) rfl, by decide +kernel, rfl, by decide +kernel, by decide +kernel, by decide +kernel, fun _ => ⟨az_int 765 (by decide +kernel) rfl, az_ins 64 (by decide +kernel) rfl⟩, fun h => absurd h (by decide), az_co_X2_findFirstBest⟩
set_option maxRecDepth 100000 in
theorem az_mp_X2_presentOfFirst : az_mp az_m_X2_presentOfFirst 0 false := ⟨az_int 748 (by decide +kernel) rfl, az_int 7 (by decide +kernel) rfl, by decide +kernel, rfl, by decide +kernel, by decide +kernel, by decide +kernel, fun _ => ⟨az_int 747 (by decide +kernel) rfl, az_ins 61 (by decide +kernel) rfl⟩, fun h => absurd h (by decide), az_co_X2_presentOfFirst⟩
set_option maxRecDepth 100000 in
theorem az_mp_X2_offerFirst : az_mp az_m_X2_offerFirst 1 false := ⟨az_int 726 (by decide +kernel) rfl, az_int 7 (by decide +kernel) rfl, by decide +kernel, rfl, by decide +kernel, by decide +kernel, by decide +kernel, fun _ => ⟨az_int 725 (by decide +kernel) rfl, az_ins 56 (by decide +kernel) rfl⟩, fun h => absurd h (by decide), az_co_X2_offerFirst⟩
set_option maxRecDepth 100000 in
theorem az_mp_X2_isBoxBeforeFirst : az_mp az_m_X2_isBoxBeforeFirst 0 false := ⟨az_int 743 (by decide +kernel) rfl, az_int 7 (by decide +kernel) rfl, by decide +kernel, rfl, by decide +kernel, by decide +kernel, by decide +kernel, fun _ => ⟨az_int 742 (by decide +kernel) rfl, az_ins 60 (by decide +kernel) rfl⟩, fun h => absurd h (by decide), az_co_X2_isBoxBeforeFirst⟩
set_option maxRecDepth 100000 in
theorem az_mp_X2_beginBand : az_mp az_m_X2_beginBand 2 false := ⟨az_int 687 (by decide +kernel) rfl, az_int 7 (by decide +kernel) rfl, by decide +kernel, rfl, by decide +kernel, by decide +kernel, by decide +kernel, fun _ => ⟨az_int 686 (by decide +kernel) rfl, az_ins 49 (by decide +kernel) rfl⟩, fun h => absurd h (by decide), az_co_X2_beginBand⟩
set_option maxRecDepth 100000 in
theorem az_mp_X2_boxAll : az_mp az_m_X2_boxAll 4 false := ⟨az_int 760 (by decide +kernel) rfl, az_int 7 (by decide +kernel) rfl, by decide +kernel, rfl, by decide +kernel, by decide +kernel, by decide +kernel, fun _ => ⟨az_int 759 (by decide +kernel) rfl, az_ins 63 (by decide +kernel) rfl⟩, fun h => absurd h (by decide), az_co_X2_boxAll⟩
set_option maxRecDepth 100000 in
theorem az_mp_X2_boxResting : az_mp az_m_X2_boxResting 4 false := ⟨az_int 683 (by decide +kernel) rfl, az_int 7 (by decide +kernel) rfl, by decide +kernel, rfl, by decide +kernel, by decide +kernel, by decide +kernel, fun _ => ⟨az_int 682 (by decide +kernel) rfl, az_ins 48 (by decide +kernel) rfl⟩, fun h => absurd h (by decide), az_co_X2_boxResting⟩
set_option maxRecDepth 100000 in
theorem az_mp_X3_copyFrom : az_mp az_m_X3_copyFrom 1 false := ⟨az_int 303 (by decide +kernel) rfl, az_int 4 (by decide +kernel) rfl, by decide +kernel, rfl, by decide +kernel, by decide +kernel, by decide +kernel, fun _ => ⟨az_int 302 (by decide +kernel) rfl, az_ins 4 (by decide +kernel) rfl⟩, fun h => absurd h (by decide), az_co_X3_copyFrom⟩
set_option maxRecDepth 100000 in
theorem az_mp_X3_has : az_mp az_m_X3_has 1 false := ⟨az_int 501 (by decide +kernel) rfl, az_int 4 (by decide +kernel) rfl, by decide +kernel, rfl, by decide +kernel, by decide +kernel, by decide +kernel, fun _ => ⟨az_int 500 (by decide +kernel) rfl, az_ins 23 (by decide +kernel) rfl⟩, fun h => absurd h (by decide), az_co_X3_has⟩
set_option maxRecDepth 100000 in
theorem az_mp_X3_add : az_mp az_m_X3_add 2 false := ⟨az_int 488 (by decide +kernel) rfl, az_int 4 (by decide +kernel) rfl, by decide +kernel, rfl, by decide +kernel, by decide +kernel, by decide +kernel, fun _ => ⟨az_int 487 (by decide +kernel) rfl, az_ins 20 (by decide +kernel) rfl⟩, fun h => absurd h (by decide), az_co_X3_add⟩
set_option maxRecDepth 100000 in
theorem az_mp_X3_mostRight : az_mp az_m_X3_mostRight 1 false := ⟨az_int 581 (by decide +kernel) rfl, az_int 4 (by decide +kernel) rfl, by decide +kernel, rfl, by decide +kernel, by decide +kernel, by decide +kernel, fun _ => ⟨az_int 580 (by decide +kernel) rfl, az_ins 35 (by decide +kernel) rfl⟩, fun h => absurd h (by decide), az_co_X3_mostRight⟩
set_option maxRecDepth 100000 in
theorem az_mp_X3_lengthen : az_mp az_m_X3_lengthen 1 false := ⟨az_int 635 (by decide +kernel) rfl, az_int 4 (by decide +kernel) rfl, by decide +kernel, rfl, by decide +kernel, by decide +kernel, by decide +kernel, fun _ => ⟨az_int 634 (by decide +kernel) rfl, az_ins 43 (by decide +kernel) rfl⟩, fun h => absurd h (by decide), az_co_X3_lengthen⟩
set_option maxRecDepth 100000 in
theorem az_mp_X4_copyFrom : az_mp az_m_X4_copyFrom 1 false := ⟨az_int 296 (by decide +kernel) rfl, az_int 3 (by decide +kernel) rfl, by decide +kernel, rfl, by decide +kernel, by decide +kernel, by decide +kernel, fun _ => ⟨az_int 295 (by decide +kernel) rfl, az_ins 3 (by decide +kernel) rfl⟩, fun h => absurd h (by decide), az_co_X4_copyFrom⟩
set_option maxRecDepth 100000 in
theorem az_mp_X4_has : az_mp az_m_X4_has 1 false := ⟨az_int 519 (by decide +kernel) rfl, az_int 3 (by decide +kernel) rfl, by decide +kernel, rfl, by decide +kernel, by decide +kernel, by decide +kernel, fun _ => ⟨az_int 518 (by decide +kernel) rfl, az_ins 26 (by decide +kernel) rfl⟩, fun h => absurd h (by decide), az_co_X4_has⟩
set_option maxRecDepth 100000 in
theorem az_mp_X4_add : az_mp az_m_X4_add 6 false := ⟨az_int 505 (by decide +kernel) rfl, az_int 3 (by decide +kernel) rfl, by decide +kernel, rfl, by decide +kernel, by decide +kernel, by decide +kernel, fun _ => ⟨az_int 504 (by decide +kernel) rfl, az_ins 24 (by decide +kernel) rfl⟩, fun h => absurd h (by decide), az_co_X4_add⟩
set_option maxRecDepth 100000 in
theorem az_mp_X4_people : az_mp az_m_X4_people 0 false := ⟨az_int 536 (by decide +kernel) rfl, az_int 3 (by decide +kernel) rfl, by decide +kernel, rfl, by decide +kernel, by decide +kernel, by decide +kernel, fun _ => ⟨az_int 535 (by decide +kernel) rfl, az_ins 29 (by decide +kernel) rfl⟩, fun h => absurd h (by decide), az_co_X4_people⟩
set_option maxRecDepth 100000 in
theorem az_mp_X5_add : az_mp az_m_X5_add 1 false := ⟨az_int 280 (by decide +kernel) rfl, az_int 6 (by decide +kernel) rfl, by decide +kernel, rfl, by decide +kernel, by decide +kernel, by decide +kernel, fun _ => ⟨az_int 279 (by decide +kernel) rfl, az_ins 1 (by decide +kernel) rfl⟩, fun h => absurd h (by decide), az_co_X5_add⟩
set_option maxRecDepth 100000 in
theorem az_mp_X5_clear : az_mp az_m_X5_clear 0 false := ⟨az_int 510 (by decide +kernel) rfl, az_int 6 (by decide +kernel) rfl, by decide +kernel, rfl, by decide +kernel, by decide +kernel, by decide +kernel, fun _ => ⟨az_int 509 (by decide +kernel) rfl, az_ins 25 (by decide +kernel) rfl⟩, fun h => absurd h (by decide), az_co_X5_clear⟩
set_option maxRecDepth 100000 in
theorem az_mp_X5_tellTo : az_mp az_m_X5_tellTo 1 false := ⟨az_int 313 (by decide +kernel) rfl, az_int 6 (by decide +kernel) rfl, by decide +kernel, rfl, by decide +kernel, by decide +kernel, by decide +kernel, fun _ => ⟨az_int 312 (by decide +kernel) rfl, az_ins 6 (by decide +kernel) rfl⟩, fun h => absurd h (by decide), az_co_X5_tellTo⟩
set_option maxRecDepth 100000 in
theorem az_mp_X5_badPlace : az_mp az_m_X5_badPlace 0 false := ⟨az_int 317 (by decide +kernel) rfl, az_int 6 (by decide +kernel) rfl, by decide +kernel, rfl, by decide +kernel, by decide +kernel, by decide +kernel, fun _ => ⟨az_int 316 (by decide +kernel) rfl, az_ins 7 (by decide +kernel) rfl⟩, fun h => absurd h (by decide), az_co_X5_badPlace⟩
set_option maxRecDepth 100000 in
theorem az_mp_X5_formAt : az_mp az_m_X5_formAt 1 false := ⟨az_int 321 (by decide +kernel) rfl, az_int 6 (by decide +kernel) rfl, by decide +kernel, rfl, by decide +kernel, by decide +kernel, by decide +kernel, fun _ => ⟨az_int 320 (by decide +kernel) rfl, az_ins 8 (by decide +kernel) rfl⟩, fun h => absurd h (by decide), az_co_X5_formAt⟩
set_option maxRecDepth 100000 in
theorem az_mp_X5_numberForm : az_mp az_m_X5_numberForm 1 false := ⟨az_int 329 (by decide +kernel) rfl, az_int 6 (by decide +kernel) rfl, by decide +kernel, rfl, by decide +kernel, by decide +kernel, by decide +kernel, fun _ => ⟨az_int 328 (by decide +kernel) rfl, az_ins 10 (by decide +kernel) rfl⟩, fun h => absurd h (by decide), az_co_X5_numberForm⟩
set_option maxRecDepth 100000 in
theorem az_mp_X5_fits : az_mp az_m_X5_fits 2 false := ⟨az_int 394 (by decide +kernel) rfl, az_int 6 (by decide +kernel) rfl, by decide +kernel, rfl, by decide +kernel, by decide +kernel, by decide +kernel, fun _ => ⟨az_int 393 (by decide +kernel) rfl, az_ins 12 (by decide +kernel) rfl⟩, fun h => absurd h (by decide), az_co_X5_fits⟩
set_option maxRecDepth 100000 in
theorem az_mp_X5_tellStatement : az_mp az_m_X5_tellStatement 2 false := ⟨az_int 461 (by decide +kernel) rfl, az_int 6 (by decide +kernel) rfl, by decide +kernel, rfl, by decide +kernel, by decide +kernel, by decide +kernel, fun _ => ⟨az_int 460 (by decide +kernel) rfl, az_ins 14 (by decide +kernel) rfl⟩, fun h => absurd h (by decide), az_co_X5_tellStatement⟩
set_option maxRecDepth 100000 in
theorem az_mp_X5_tellSort : az_mp az_m_X5_tellSort 2 false := ⟨az_int 493 (by decide +kernel) rfl, az_int 6 (by decide +kernel) rfl, by decide +kernel, rfl, by decide +kernel, by decide +kernel, by decide +kernel, fun _ => ⟨az_int 492 (by decide +kernel) rfl, az_ins 21 (by decide +kernel) rfl⟩, fun h => absurd h (by decide), az_co_X5_tellSort⟩
set_option maxRecDepth 100000 in
theorem az_mp_X5_letterAt : az_mp az_m_X5_letterAt 1 false := ⟨az_int 325 (by decide +kernel) rfl, az_int 6 (by decide +kernel) rfl, by decide +kernel, rfl, by decide +kernel, by decide +kernel, by decide +kernel, fun _ => ⟨az_int 324 (by decide +kernel) rfl, az_ins 9 (by decide +kernel) rfl⟩, fun h => absurd h (by decide), az_co_X5_letterAt⟩
set_option maxRecDepth 100000 in
theorem az_mp_X5_isDigit : az_mp az_m_X5_isDigit 1 false := ⟨az_int 333 (by decide +kernel) rfl, az_int 6 (by decide +kernel) rfl, by decide +kernel, rfl, by decide +kernel, by decide +kernel, by decide +kernel, fun _ => ⟨az_int 332 (by decide +kernel) rfl, az_ins 11 (by decide +kernel) rfl⟩, fun h => absurd h (by decide), az_co_X5_isDigit⟩
set_option maxRecDepth 100000 in
theorem az_mp_X5_digitAt : az_mp az_m_X5_digitAt 1 false := ⟨az_int 469 (by decide +kernel) rfl, az_int 6 (by decide +kernel) rfl, by decide +kernel, rfl, by decide +kernel, by decide +kernel, by decide +kernel, fun _ => ⟨az_int 468 (by decide +kernel) rfl, az_ins 16 (by decide +kernel) rfl⟩, fun h => absurd h (by decide), az_co_X5_digitAt⟩
set_option maxRecDepth 100000 in
theorem az_mp_X5_numberAt : az_mp az_m_X5_numberAt 1 false := ⟨az_int 465 (by decide +kernel) rfl, az_int 6 (by decide +kernel) rfl, by decide +kernel, rfl, by decide +kernel, by decide +kernel, by decide +kernel, fun _ => ⟨az_int 464 (by decide +kernel) rfl, az_ins 15 (by decide +kernel) rfl⟩, fun h => absurd h (by decide), az_co_X5_numberAt⟩
set_option maxRecDepth 100000 in
theorem az_mp_X5_kindAt : az_mp az_m_X5_kindAt 2 false := ⟨az_int 399 (by decide +kernel) rfl, az_int 6 (by decide +kernel) rfl, by decide +kernel, rfl, by decide +kernel, by decide +kernel, by decide +kernel, fun _ => ⟨az_int 398 (by decide +kernel) rfl, az_ins 13 (by decide +kernel) rfl⟩, fun h => absurd h (by decide), az_co_X5_kindAt⟩
set_option maxRecDepth 100000 in
theorem az_mp_X6_copyFrom : az_mp az_m_X6_copyFrom 1 false := ⟨az_int 292 (by decide +kernel) rfl, az_int 2 (by decide +kernel) rfl, by decide +kernel, rfl, by decide +kernel, by decide +kernel, by decide +kernel, fun _ => ⟨az_int 291 (by decide +kernel) rfl, az_ins 2 (by decide +kernel) rfl⟩, fun h => absurd h (by decide), az_co_X6_copyFrom⟩
set_option maxRecDepth 100000 in
theorem az_mp_X6_setChairs : az_mp az_m_X6_setChairs 1 false := ⟨az_int 473 (by decide +kernel) rfl, az_int 2 (by decide +kernel) rfl, by decide +kernel, rfl, by decide +kernel, by decide +kernel, by decide +kernel, fun _ => ⟨az_int 472 (by decide +kernel) rfl, az_ins 17 (by decide +kernel) rfl⟩, fun h => absurd h (by decide), az_co_X6_setChairs⟩
set_option maxRecDepth 100000 in
theorem az_mp_X6_addWeek : az_mp az_m_X6_addWeek 1 false := ⟨az_int 477 (by decide +kernel) rfl, az_int 2 (by decide +kernel) rfl, by decide +kernel, rfl, by decide +kernel, by decide +kernel, by decide +kernel, fun _ => ⟨az_int 476 (by decide +kernel) rfl, az_ins 18 (by decide +kernel) rfl⟩, fun h => absurd h (by decide), az_co_X6_addWeek⟩
set_option maxRecDepth 100000 in
theorem az_mp_X6_mayFollow : az_mp az_m_X6_mayFollow 2 false := ⟨az_int 497 (by decide +kernel) rfl, az_int 2 (by decide +kernel) rfl, by decide +kernel, rfl, by decide +kernel, by decide +kernel, by decide +kernel, fun _ => ⟨az_int 496 (by decide +kernel) rfl, az_ins 22 (by decide +kernel) rfl⟩, fun h => absurd h (by decide), az_co_X6_mayFollow⟩
set_option maxRecDepth 100000 in
theorem az_mp_X6_presentAgo : az_mp az_m_X6_presentAgo 1 false := ⟨az_int 532 (by decide +kernel) rfl, az_int 2 (by decide +kernel) rfl, by decide +kernel, rfl, by decide +kernel, by decide +kernel, by decide +kernel, fun _ => ⟨az_int 531 (by decide +kernel) rfl, az_ins 28 (by decide +kernel) rfl⟩, fun h => absurd h (by decide), az_co_X6_presentAgo⟩
set_option maxRecDepth 100000 in
theorem az_mp_X6_meanPresent : az_mp az_m_X6_meanPresent 1 false := ⟨az_int 542 (by decide +kernel) rfl, az_int 2 (by decide +kernel) rfl, by decide +kernel, rfl, by decide +kernel, by decide +kernel, by decide +kernel, fun _ => ⟨az_int 541 (by decide +kernel) rfl, az_ins 30 (by decide +kernel) rfl⟩, fun h => absurd h (by decide), az_co_X6_meanPresent⟩
set_option maxRecDepth 100000 in
theorem az_mp_X6_foretells : az_mp az_m_X6_foretells 2 false := ⟨az_int 528 (by decide +kernel) rfl, az_int 2 (by decide +kernel) rfl, by decide +kernel, rfl, by decide +kernel, by decide +kernel, by decide +kernel, fun _ => ⟨az_int 527 (by decide +kernel) rfl, az_ins 27 (by decide +kernel) rfl⟩, fun h => absurd h (by decide), az_co_X6_foretells⟩
set_option maxRecDepth 100000 in
theorem az_mp_X6_isRight : az_mp az_m_X6_isRight 1 false := ⟨az_int 593 (by decide +kernel) rfl, az_int 2 (by decide +kernel) rfl, by decide +kernel, rfl, by decide +kernel, by decide +kernel, by decide +kernel, fun _ => ⟨az_int 592 (by decide +kernel) rfl, az_ins 37 (by decide +kernel) rfl⟩, fun h => absurd h (by decide), az_co_X6_isRight⟩
set_option maxRecDepth 100000 in
theorem az_mp_X6_decide : az_mp az_m_X6_decide 0 false := ⟨az_int 601 (by decide +kernel) rfl, az_int 2 (by decide +kernel) rfl, by decide +kernel, rfl, by decide +kernel, by decide +kernel, by decide +kernel, fun _ => ⟨az_int 600 (by decide +kernel) rfl, az_ins 38 (by decide +kernel) rfl⟩, fun h => absurd h (by decide), az_co_X6_decide⟩
set_option maxRecDepth 100000 in
theorem az_mp_X6_askRules : az_mp az_m_X6_askRules 0 false := ⟨az_int 566 (by decide +kernel) rfl, az_int 2 (by decide +kernel) rfl, by decide +kernel, rfl, by decide +kernel, by decide +kernel, by decide +kernel, fun _ => ⟨az_int 565 (by decide +kernel) rfl, az_ins 32 (by decide +kernel) rfl⟩, fun h => absurd h (by decide), az_co_X6_askRules⟩
set_option maxRecDepth 100000 in
theorem az_mp_X6_askSorts : az_mp az_m_X6_askSorts 0 false := ⟨az_int 573 (by decide +kernel) rfl, az_int 2 (by decide +kernel) rfl, by decide +kernel, rfl, by decide +kernel, by decide +kernel, by decide +kernel, fun _ => ⟨az_int 572 (by decide +kernel) rfl, az_ins 33 (by decide +kernel) rfl⟩, fun h => absurd h (by decide), az_co_X6_askSorts⟩
set_option maxRecDepth 100000 in
theorem az_mp_X6_settle : az_mp az_m_X6_settle 2 false := ⟨az_int 589 (by decide +kernel) rfl, az_int 2 (by decide +kernel) rfl, by decide +kernel, rfl, by decide +kernel, by decide +kernel, by decide +kernel, fun _ => ⟨az_int 588 (by decide +kernel) rfl, az_ins 36 (by decide +kernel) rfl⟩, fun h => absurd h (by decide), az_co_X6_settle⟩
set_option maxRecDepth 100000 in
theorem az_mp_X6_wantsToGo : az_mp az_m_X6_wantsToGo 1 false := ⟨az_int 577 (by decide +kernel) rfl, az_int 2 (by decide +kernel) rfl, by decide +kernel, rfl, by decide +kernel, by decide +kernel, by decide +kernel, fun _ => ⟨az_int 576 (by decide +kernel) rfl, az_ins 34 (by decide +kernel) rfl⟩, fun h => absurd h (by decide), az_co_X6_wantsToGo⟩
set_option maxRecDepth 100000 in
theorem az_mp_X6_goBy : az_mp az_m_X6_goBy 0 false := ⟨az_int 562 (by decide +kernel) rfl, az_int 2 (by decide +kernel) rfl, by decide +kernel, rfl, by decide +kernel, by decide +kernel, by decide +kernel, fun _ => ⟨az_int 561 (by decide +kernel) rfl, az_ins 31 (by decide +kernel) rfl⟩, fun h => absurd h (by decide), az_co_X6_goBy⟩
set_option maxRecDepth 100000 in
theorem az_mp_X6_worthToOne : az_mp az_m_X6_worthToOne 1 false := ⟨az_int 622 (by decide +kernel) rfl, az_int 2 (by decide +kernel) rfl, by decide +kernel, rfl, by decide +kernel, by decide +kernel, by decide +kernel, fun _ => ⟨az_int 621 (by decide +kernel) rfl, az_ins 41 (by decide +kernel) rfl⟩, fun h => absurd h (by decide), az_co_X6_worthToOne⟩
set_option maxRecDepth 100000 in
theorem az_mp_X6_worthToAll : az_mp az_m_X6_worthToAll 0 false := ⟨az_int 618 (by decide +kernel) rfl, az_int 2 (by decide +kernel) rfl, by decide +kernel, rfl, by decide +kernel, by decide +kernel, by decide +kernel, fun _ => ⟨az_int 617 (by decide +kernel) rfl, az_ins 40 (by decide +kernel) rfl⟩, fun h => absurd h (by decide), az_co_X6_worthToAll⟩
set_option maxRecDepth 100000 in
theorem az_mp_X6_drawMemory : az_mp az_m_X6_drawMemory 1 false := ⟨az_int 810 (by decide +kernel) rfl, az_int 2 (by decide +kernel) rfl, by decide +kernel, rfl, by decide +kernel, by decide +kernel, by decide +kernel, fun _ => ⟨az_int 809 (by decide +kernel) rfl, az_ins 67 (by decide +kernel) rfl⟩, fun h => absurd h (by decide), az_co_X6_drawMemory⟩
set_option maxRecDepth 100000 in
theorem az_mp_X7_letter : az_mp az_m_X7_letter 1 false := ⟨az_int 263 (by decide +kernel) rfl, az_int 1 (by decide +kernel) rfl, by decide +kernel, rfl, by decide +kernel, by decide +kernel, by decide +kernel, fun _ => ⟨az_int 261 (by decide +kernel) rfl, az_int 262 (by decide +kernel) rfl⟩, fun h => absurd h (by decide), az_co_X7_letter⟩
set_option maxRecDepth 100000 in
theorem az_mp_X7_town : az_mp az_m_X7_town 0 false := ⟨az_int 288 (by decide +kernel) rfl, az_int 1 (by decide +kernel) rfl, by decide +kernel, rfl, by decide +kernel, by decide +kernel, by decide +kernel, fun _ => ⟨az_int 286 (by decide +kernel) rfl, az_int 287 (by decide +kernel) rfl⟩, fun h => absurd h (by decide), az_co_X7_town⟩
set_option maxRecDepth 100000 in
theorem az_mp_X7_sort : az_mp az_m_X7_sort 2 false := ⟨az_int 515 (by decide +kernel) rfl, az_int 1 (by decide +kernel) rfl, by decide +kernel, rfl, by decide +kernel, by decide +kernel, by decide +kernel, fun _ => ⟨az_int 513 (by decide +kernel) rfl, az_int 514 (by decide +kernel) rfl⟩, fun h => absurd h (by decide), az_co_X7_sort⟩
set_option maxRecDepth 100000 in
theorem az_mp_X7_rule : az_mp az_m_X7_rule 2 false := ⟨az_int 523 (by decide +kernel) rfl, az_int 1 (by decide +kernel) rfl, by decide +kernel, rfl, by decide +kernel, by decide +kernel, by decide +kernel, fun _ => ⟨az_int 521 (by decide +kernel) rfl, az_int 522 (by decide +kernel) rfl⟩, fun h => absurd h (by decide), az_co_X7_rule⟩
set_option maxRecDepth 100000 in
theorem az_mp_X7_remembered : az_mp az_m_X7_remembered 1 false := ⟨az_int 549 (by decide +kernel) rfl, az_int 1 (by decide +kernel) rfl, by decide +kernel, rfl, by decide +kernel, by decide +kernel, by decide +kernel, fun _ => ⟨az_int 547 (by decide +kernel) rfl, az_int 548 (by decide +kernel) rfl⟩, fun h => absurd h (by decide), az_co_X7_remembered⟩
set_option maxRecDepth 100000 in
theorem az_mp_X7_penny : az_mp az_m_X7_penny 1 false := ⟨az_int 554 (by decide +kernel) rfl, az_int 1 (by decide +kernel) rfl, by decide +kernel, rfl, by decide +kernel, by decide +kernel, by decide +kernel, fun _ => ⟨az_int 552 (by decide +kernel) rfl, az_int 553 (by decide +kernel) rfl⟩, fun h => absurd h (by decide), az_co_X7_penny⟩
set_option maxRecDepth 100000 in
theorem az_mp_X7_week : az_mp az_m_X7_week 0 false := ⟨az_int 558 (by decide +kernel) rfl, az_int 1 (by decide +kernel) rfl, by decide +kernel, rfl, by decide +kernel, by decide +kernel, by decide +kernel, fun _ => ⟨az_int 556 (by decide +kernel) rfl, az_int 557 (by decide +kernel) rfl⟩, fun h => absurd h (by decide), az_co_X7_week⟩
set_option maxRecDepth 100000 in
theorem az_mp_X7_next : az_mp az_m_X7_next 0 false := ⟨az_int 597 (by decide +kernel) rfl, az_int 1 (by decide +kernel) rfl, by decide +kernel, rfl, by decide +kernel, by decide +kernel, by decide +kernel, fun _ => ⟨az_int 595 (by decide +kernel) rfl, az_int 596 (by decide +kernel) rfl⟩, fun h => absurd h (by decide), az_co_X7_next⟩
set_option maxRecDepth 100000 in
theorem az_mp_X7_goes : az_mp az_m_X7_goes 1 false := ⟨az_int 605 (by decide +kernel) rfl, az_int 1 (by decide +kernel) rfl, by decide +kernel, rfl, by decide +kernel, by decide +kernel, by decide +kernel, fun _ => ⟨az_int 603 (by decide +kernel) rfl, az_int 604 (by decide +kernel) rfl⟩, fun h => absurd h (by decide), az_co_X7_goes⟩
set_option maxRecDepth 100000 in
theorem az_mp_X7_worth : az_mp az_m_X7_worth 1 false := ⟨az_int 609 (by decide +kernel) rfl, az_int 1 (by decide +kernel) rfl, by decide +kernel, rfl, by decide +kernel, by decide +kernel, by decide +kernel, fun _ => ⟨az_int 607 (by decide +kernel) rfl, az_int 608 (by decide +kernel) rfl⟩, fun h => absurd h (by decide), az_co_X7_worth⟩
set_option maxRecDepth 100000 in
theorem az_mp_X7_after : az_mp az_m_X7_after 1 false := ⟨az_int 627 (by decide +kernel) rfl, az_int 1 (by decide +kernel) rfl, by decide +kernel, rfl, by decide +kernel, by decide +kernel, by decide +kernel, fun _ => ⟨az_int 625 (by decide +kernel) rfl, az_int 626 (by decide +kernel) rfl⟩, fun h => absurd h (by decide), az_co_X7_after⟩
set_option maxRecDepth 100000 in
theorem az_mp_X7_mean : az_mp az_m_X7_mean 1 false := ⟨az_int 640 (by decide +kernel) rfl, az_int 1 (by decide +kernel) rfl, by decide +kernel, rfl, by decide +kernel, by decide +kernel, by decide +kernel, fun _ => ⟨az_int 638 (by decide +kernel) rfl, az_int 639 (by decide +kernel) rfl⟩, fun h => absurd h (by decide), az_co_X7_mean⟩
set_option maxRecDepth 100000 in
theorem az_mp_X7_swing : az_mp az_m_X7_swing 1 false := ⟨az_int 645 (by decide +kernel) rfl, az_int 1 (by decide +kernel) rfl, by decide +kernel, rfl, by decide +kernel, by decide +kernel, by decide +kernel, fun _ => ⟨az_int 643 (by decide +kernel) rfl, az_int 644 (by decide +kernel) rfl⟩, fun h => absurd h (by decide), az_co_X7_swing⟩
set_option maxRecDepth 100000 in
theorem az_mp_X7_good : az_mp az_m_X7_good 1 false := ⟨az_int 655 (by decide +kernel) rfl, az_int 1 (by decide +kernel) rfl, by decide +kernel, rfl, by decide +kernel, by decide +kernel, by decide +kernel, fun _ => ⟨az_int 653 (by decide +kernel) rfl, az_int 654 (by decide +kernel) rfl⟩, fun h => absurd h (by decide), az_co_X7_good⟩
set_option maxRecDepth 100000 in
theorem az_mp_X7_again : az_mp az_m_X7_again 0 false := ⟨az_int 659 (by decide +kernel) rfl, az_int 1 (by decide +kernel) rfl, by decide +kernel, rfl, by decide +kernel, by decide +kernel, by decide +kernel, fun _ => ⟨az_int 657 (by decide +kernel) rfl, az_int 658 (by decide +kernel) rfl⟩, fun h => absurd h (by decide), az_co_X7_again⟩
set_option maxRecDepth 100000 in
theorem az_mp_X7_gains : az_mp az_m_X7_gains 2 false := ⟨az_int 667 (by decide +kernel) rfl, az_int 1 (by decide +kernel) rfl, by decide +kernel, rfl, by decide +kernel, by decide +kernel, by decide +kernel, fun _ => ⟨az_int 665 (by decide +kernel) rfl, az_int 666 (by decide +kernel) rfl⟩, fun h => absurd h (by decide), az_co_X7_gains⟩
set_option maxRecDepth 100000 in
theorem az_mp_X7_rests : az_mp az_m_X7_rests 0 false := ⟨az_int 675 (by decide +kernel) rfl, az_int 1 (by decide +kernel) rfl, by decide +kernel, rfl, by decide +kernel, by decide +kernel, by decide +kernel, fun _ => ⟨az_int 673 (by decide +kernel) rfl, az_int 674 (by decide +kernel) rfl⟩, fun h => absurd h (by decide), az_co_X7_rests⟩
set_option maxRecDepth 100000 in
theorem az_mp_X7_rest : az_mp az_m_X7_rest 1 false := ⟨az_int 716 (by decide +kernel) rfl, az_int 1 (by decide +kernel) rfl, by decide +kernel, rfl, by decide +kernel, by decide +kernel, by decide +kernel, fun _ => ⟨az_int 714 (by decide +kernel) rfl, az_int 715 (by decide +kernel) rfl⟩, fun h => absurd h (by decide), az_co_X7_rest⟩
set_option maxRecDepth 100000 in
theorem az_mp_X7_best : az_mp az_m_X7_best 1 false := ⟨az_int 752 (by decide +kernel) rfl, az_int 1 (by decide +kernel) rfl, by decide +kernel, rfl, by decide +kernel, by decide +kernel, by decide +kernel, fun _ => ⟨az_int 750 (by decide +kernel) rfl, az_int 751 (by decide +kernel) rfl⟩, fun h => absurd h (by decide), az_co_X7_best⟩
set_option maxRecDepth 100000 in
theorem az_mp_X7_off : az_mp az_m_X7_off 0 false := ⟨az_int 771 (by decide +kernel) rfl, az_int 1 (by decide +kernel) rfl, by decide +kernel, rfl, by decide +kernel, by decide +kernel, by decide +kernel, fun _ => ⟨az_int 769 (by decide +kernel) rfl, az_int 770 (by decide +kernel) rfl⟩, fun h => absurd h (by decide), az_co_X7_off⟩
set_option maxRecDepth 100000 in
theorem az_mp_X7_pennies : az_mp az_m_X7_pennies 0 false := ⟨az_int 780 (by decide +kernel) rfl, az_int 1 (by decide +kernel) rfl, by decide +kernel, rfl, by decide +kernel, by decide +kernel, by decide +kernel, fun _ => ⟨az_int 778 (by decide +kernel) rfl, az_int 779 (by decide +kernel) rfl⟩, fun h => absurd h (by decide), az_co_X7_pennies⟩
set_option maxRecDepth 100000 in
theorem az_mp_X7_chairs : az_mp az_m_X7_chairs 0 false := ⟨az_int 784 (by decide +kernel) rfl, az_int 1 (by decide +kernel) rfl, by decide +kernel, rfl, by decide +kernel, by decide +kernel, by decide +kernel, fun _ => ⟨az_int 782 (by decide +kernel) rfl, az_int 783 (by decide +kernel) rfl⟩, fun h => absurd h (by decide), az_co_X7_chairs⟩
set_option maxRecDepth 100000 in
theorem az_mp_X7_sees : az_mp az_m_X7_sees 4 false := ⟨az_int 788 (by decide +kernel) rfl, az_int 1 (by decide +kernel) rfl, by decide +kernel, rfl, by decide +kernel, by decide +kernel, by decide +kernel, fun _ => ⟨az_int 786 (by decide +kernel) rfl, az_int 787 (by decide +kernel) rfl⟩, fun h => absurd h (by decide), az_co_X7_sees⟩
set_option maxRecDepth 100000 in
theorem az_mp_X7_which : az_mp az_m_X7_which 1 false := ⟨az_int 793 (by decide +kernel) rfl, az_int 1 (by decide +kernel) rfl, by decide +kernel, rfl, by decide +kernel, by decide +kernel, by decide +kernel, fun _ => ⟨az_int 791 (by decide +kernel) rfl, az_int 792 (by decide +kernel) rfl⟩, fun h => absurd h (by decide), az_co_X7_which⟩
set_option maxRecDepth 100000 in
theorem az_mp_X7_longer : az_mp az_m_X7_longer 1 false := ⟨az_int 802 (by decide +kernel) rfl, az_int 1 (by decide +kernel) rfl, by decide +kernel, rfl, by decide +kernel, by decide +kernel, by decide +kernel, fun _ => ⟨az_int 800 (by decide +kernel) rfl, az_int 801 (by decide +kernel) rfl⟩, fun h => absurd h (by decide), az_co_X7_longer⟩
set_option maxRecDepth 100000 in
theorem az_mp_X7_seeds : az_mp az_m_X7_seeds 2 false := ⟨az_int 806 (by decide +kernel) rfl, az_int 1 (by decide +kernel) rfl, by decide +kernel, rfl, by decide +kernel, by decide +kernel, by decide +kernel, fun _ => ⟨az_int 804 (by decide +kernel) rfl, az_int 805 (by decide +kernel) rfl⟩, fun h => absurd h (by decide), az_co_X7_seeds⟩
set_option maxRecDepth 100000 in
theorem az_mp_X7_row : az_mp az_m_X7_row 1 false := ⟨az_int 817 (by decide +kernel) rfl, az_int 1 (by decide +kernel) rfl, by decide +kernel, rfl, by decide +kernel, by decide +kernel, by decide +kernel, fun _ => ⟨az_int 815 (by decide +kernel) rfl, az_int 816 (by decide +kernel) rfl⟩, fun h => absurd h (by decide), az_co_X7_row⟩
set_option maxRecDepth 100000 in
theorem az_mp_X7_judge : az_mp az_m_X7_judge 0 false := ⟨az_int 821 (by decide +kernel) rfl, az_int 1 (by decide +kernel) rfl, by decide +kernel, rfl, by decide +kernel, by decide +kernel, by decide +kernel, fun _ => ⟨az_int 819 (by decide +kernel) rfl, az_int 820 (by decide +kernel) rfl⟩, fun h => absurd h (by decide), az_co_X7_judge⟩
set_option maxRecDepth 100000 in
theorem az_mp_X7_image : az_mp az_m_X7_image 0 false := ⟨az_int 825 (by decide +kernel) rfl, az_int 1 (by decide +kernel) rfl, by decide +kernel, rfl, by decide +kernel, by decide +kernel, by decide +kernel, fun _ => ⟨az_int 823 (by decide +kernel) rfl, az_int 824 (by decide +kernel) rfl⟩, fun h => absurd h (by decide), az_co_X7_image⟩
set_option maxRecDepth 100000 in
theorem az_mp_X7_on : az_mp az_m_X7_on 0 false := ⟨az_int 829 (by decide +kernel) rfl, az_int 1 (by decide +kernel) rfl, by decide +kernel, rfl, by decide +kernel, by decide +kernel, by decide +kernel, fun _ => ⟨az_int 827 (by decide +kernel) rfl, az_int 828 (by decide +kernel) rfl⟩, fun h => absurd h (by decide), az_co_X7_on⟩
set_option maxRecDepth 100000 in
theorem az_mp_X7_count : az_mp az_m_X7_count 1 false := ⟨az_int 833 (by decide +kernel) rfl, az_int 1 (by decide +kernel) rfl, by decide +kernel, rfl, by decide +kernel, by decide +kernel, by decide +kernel, fun _ => ⟨az_int 831 (by decide +kernel) rfl, az_int 832 (by decide +kernel) rfl⟩, fun h => absurd h (by decide), az_co_X7_count⟩
set_option maxRecDepth 100000 in
theorem az_mp_X7_refuse : az_mp az_m_X7_refuse 1 false := ⟨az_int 270 (by decide +kernel) rfl, az_int 1 (by decide +kernel) rfl, by decide +kernel, rfl, by decide +kernel, by decide +kernel, by decide +kernel, fun _ => ⟨az_int 269 (by decide +kernel) rfl, az_ins 0 (by decide +kernel) rfl⟩, fun h => absurd h (by decide), az_co_X7_refuse⟩
set_option maxRecDepth 100000 in
theorem az_mp_X7_refuseWorth : az_mp az_m_X7_refuseWorth 1 false := ⟨az_int 613 (by decide +kernel) rfl, az_int 1 (by decide +kernel) rfl, by decide +kernel, rfl, by decide +kernel, by decide +kernel, by decide +kernel, fun _ => ⟨az_int 612 (by decide +kernel) rfl, az_ins 39 (by decide +kernel) rfl⟩, fun h => absurd h (by decide), az_co_X7_refuseWorth⟩
set_option maxRecDepth 100000 in
theorem az_mp_X7_lookAhead : az_mp az_m_X7_lookAhead 2 false := ⟨az_int 631 (by decide +kernel) rfl, az_int 1 (by decide +kernel) rfl, by decide +kernel, rfl, by decide +kernel, by decide +kernel, by decide +kernel, fun _ => ⟨az_int 630 (by decide +kernel) rfl, az_ins 42 (by decide +kernel) rfl⟩, fun h => absurd h (by decide), az_co_X7_lookAhead⟩
set_option maxRecDepth 100000 in
theorem az_mp_X7_swingOf : az_mp az_m_X7_swingOf 1 false := ⟨az_int 649 (by decide +kernel) rfl, az_int 1 (by decide +kernel) rfl, by decide +kernel, rfl, by decide +kernel, by decide +kernel, by decide +kernel, fun _ => ⟨az_int 648 (by decide +kernel) rfl, az_ins 44 (by decide +kernel) rfl⟩, fun h => absurd h (by decide), az_co_X7_swingOf⟩
set_option maxRecDepth 100000 in
theorem az_mp_X7_comesAgainAfter : az_mp az_m_X7_comesAgainAfter 1 false := ⟨az_int 663 (by decide +kernel) rfl, az_int 1 (by decide +kernel) rfl, by decide +kernel, rfl, by decide +kernel, by decide +kernel, by decide +kernel, fun _ => ⟨az_int 662 (by decide +kernel) rfl, az_ins 45 (by decide +kernel) rfl⟩, fun h => absurd h (by decide), az_co_X7_comesAgainAfter⟩
set_option maxRecDepth 100000 in
theorem az_mp_X7_gainsInMind : az_mp az_m_X7_gainsInMind 2 false := ⟨az_int 671 (by decide +kernel) rfl, az_int 1 (by decide +kernel) rfl, by decide +kernel, rfl, by decide +kernel, by decide +kernel, by decide +kernel, fun _ => ⟨az_int 670 (by decide +kernel) rfl, az_ins 46 (by decide +kernel) rfl⟩, fun h => absurd h (by decide), az_co_X7_gainsInMind⟩
set_option maxRecDepth 100000 in
theorem az_mp_X7_tallyRight : az_mp az_m_X7_tallyRight 1 false := ⟨az_int 797 (by decide +kernel) rfl, az_int 1 (by decide +kernel) rfl, by decide +kernel, rfl, by decide +kernel, by decide +kernel, by decide +kernel, fun _ => ⟨az_int 796 (by decide +kernel) rfl, az_ins 66 (by decide +kernel) rfl⟩, fun h => absurd h (by decide), az_co_X7_tallyRight⟩
set_option maxRecDepth 100000 in
theorem az_mp_X7_outside : az_mp az_m_X7_outside 3 true := ⟨az_int 266 (by decide +kernel) rfl, az_int 1 (by decide +kernel) rfl, by decide +kernel, rfl, by decide +kernel, by decide +kernel, by decide +kernel, fun h => absurd h (by decide), fun _ => az_int 265 (by decide +kernel) rfl, az_co_X7_outside⟩
set_option maxRecDepth 100000 in
theorem az_mp_X7_at : az_mp az_m_X7_at 2 true := ⟨az_int 273 (by decide +kernel) rfl, az_int 1 (by decide +kernel) rfl, by decide +kernel, rfl, by decide +kernel, by decide +kernel, by decide +kernel, fun h => absurd h (by decide), fun _ => az_int 272 (by decide +kernel) rfl, az_co_X7_at⟩
set_option maxRecDepth 100000 in
theorem az_mp_X7_put : az_mp az_m_X7_put 3 true := ⟨az_int 276 (by decide +kernel) rfl, az_int 1 (by decide +kernel) rfl, by decide +kernel, rfl, by decide +kernel, by decide +kernel, by decide +kernel, fun h => absurd h (by decide), fun _ => az_int 275 (by decide +kernel) rfl, az_co_X7_put⟩
set_option maxRecDepth 100000 in
theorem az_mp_X7_copyRow : az_mp az_m_X7_copyRow 2 true := ⟨az_int 299 (by decide +kernel) rfl, az_int 1 (by decide +kernel) rfl, by decide +kernel, rfl, by decide +kernel, by decide +kernel, by decide +kernel, fun h => absurd h (by decide), fun _ => az_int 298 (by decide +kernel) rfl, az_co_X7_copyRow⟩
set_option maxRecDepth 100000 in
theorem az_mp_X7_quotient : az_mp az_m_X7_quotient 2 true := ⟨az_int 545 (by decide +kernel) rfl, az_int 1 (by decide +kernel) rfl, by decide +kernel, rfl, by decide +kernel, by decide +kernel, by decide +kernel, fun h => absurd h (by decide), fun _ => az_int 544 (by decide +kernel) rfl, az_co_X7_quotient⟩
set_option maxRecDepth 100000 in
theorem az_mp_X7_remainder : az_mp az_m_X7_remainder 2 true := ⟨az_int 585 (by decide +kernel) rfl, az_int 1 (by decide +kernel) rfl, by decide +kernel, rfl, by decide +kernel, by decide +kernel, by decide +kernel, fun h => absurd h (by decide), fun _ => az_int 584 (by decide +kernel) rfl, az_co_X7_remainder⟩
set_option maxRecDepth 100000 in
theorem az_mp_X8_no : az_mp az_m_X8_no 1 false := ⟨az_int 850 (by decide +kernel) rfl, az_int 9 (by decide +kernel) rfl, by decide +kernel, rfl, by decide +kernel, by decide +kernel, by decide +kernel, fun _ => ⟨az_int 848 (by decide +kernel) rfl, az_ins 68 (by decide +kernel) rfl⟩, fun h => absurd h (by decide), az_co_X8_no⟩
set_option maxRecDepth 100000 in
theorem az_mp_X8_move : az_mp az_m_X8_move 2 true := ⟨az_int 841 (by decide +kernel) rfl, az_int 9 (by decide +kernel) rfl, by decide +kernel, rfl, by decide +kernel, by decide +kernel, by decide +kernel, fun h => absurd h (by decide), fun _ => az_int 840 (by decide +kernel) rfl, az_co_X8_move⟩
set_option maxRecDepth 100000 in
theorem az_mp_X8_image : az_mp az_m_X8_image 0 false := ⟨az_int 838 (by decide +kernel) rfl, az_int 9 (by decide +kernel) rfl, by decide +kernel, rfl, by decide +kernel, by decide +kernel, by decide +kernel, fun _ => ⟨az_int 836 (by decide +kernel) rfl, az_int 837 (by decide +kernel) rfl⟩, fun h => absurd h (by decide), az_co_X8_image⟩
set_option maxRecDepth 100000 in
theorem az_mp_X8_on : az_mp az_m_X8_on 0 false := ⟨az_int 845 (by decide +kernel) rfl, az_int 9 (by decide +kernel) rfl, by decide +kernel, rfl, by decide +kernel, by decide +kernel, by decide +kernel, fun _ => ⟨az_int 843 (by decide +kernel) rfl, az_int 844 (by decide +kernel) rfl⟩, fun h => absurd h (by decide), az_co_X8_on⟩
set_option maxRecDepth 100000 in
theorem az_mp_X8_of : az_mp az_m_X8_of 2 false := ⟨az_int 991 (by decide +kernel) rfl, az_int 9 (by decide +kernel) rfl, by decide +kernel, rfl, by decide +kernel, by decide +kernel, by decide +kernel, fun _ => ⟨az_int 990 (by decide +kernel) rfl, az_ins 78 (by decide +kernel) rfl⟩, fun h => absurd h (by decide), az_co_X8_of⟩
set_option maxRecDepth 100000 in
theorem az_mp_X8_people : az_mp az_m_X8_people 0 false := ⟨az_int 1007 (by decide +kernel) rfl, az_int 9 (by decide +kernel) rfl, by decide +kernel, rfl, by decide +kernel, by decide +kernel, by decide +kernel, fun _ => ⟨az_int 1006 (by decide +kernel) rfl, az_ins 81 (by decide +kernel) rfl⟩, fun h => absurd h (by decide), az_co_X8_people⟩
set_option maxRecDepth 100000 in
theorem az_mp_X8_letter : az_mp az_m_X8_letter 1 false := ⟨az_int 943 (by decide +kernel) rfl, az_int 9 (by decide +kernel) rfl, by decide +kernel, rfl, by decide +kernel, by decide +kernel, by decide +kernel, fun _ => ⟨az_int 941 (by decide +kernel) rfl, az_int 942 (by decide +kernel) rfl⟩, fun h => absurd h (by decide), az_co_X8_letter⟩
set_option maxRecDepth 100000 in
theorem az_mp_X8_expect : az_mp az_m_X8_expect 1 false := ⟨az_int 967 (by decide +kernel) rfl, az_int 9 (by decide +kernel) rfl, by decide +kernel, rfl, by decide +kernel, by decide +kernel, by decide +kernel, fun _ => ⟨az_int 966 (by decide +kernel) rfl, az_ins 73 (by decide +kernel) rfl⟩, fun h => absurd h (by decide), az_co_X8_expect⟩
set_option maxRecDepth 100000 in
theorem az_mp_X8_oneOf : az_mp az_m_X8_oneOf 1 false := ⟨az_int 959 (by decide +kernel) rfl, az_int 9 (by decide +kernel) rfl, by decide +kernel, rfl, by decide +kernel, by decide +kernel, by decide +kernel, fun _ => ⟨az_int 958 (by decide +kernel) rfl, az_ins 71 (by decide +kernel) rfl⟩, fun h => absurd h (by decide), az_co_X8_oneOf⟩
set_option maxRecDepth 100000 in
theorem az_mp_X8_figures : az_mp az_m_X8_figures 1 false := ⟨az_int 963 (by decide +kernel) rfl, az_int 9 (by decide +kernel) rfl, by decide +kernel, rfl, by decide +kernel, by decide +kernel, by decide +kernel, fun _ => ⟨az_int 962 (by decide +kernel) rfl, az_ins 72 (by decide +kernel) rfl⟩, fun h => absurd h (by decide), az_co_X8_figures⟩
set_option maxRecDepth 100000 in
theorem az_mp_X8_statement : az_mp az_m_X8_statement 0 false := ⟨az_int 955 (by decide +kernel) rfl, az_int 9 (by decide +kernel) rfl, by decide +kernel, rfl, by decide +kernel, by decide +kernel, by decide +kernel, fun _ => ⟨az_int 954 (by decide +kernel) rfl, az_ins 70 (by decide +kernel) rfl⟩, fun h => absurd h (by decide), az_co_X8_statement⟩
set_option maxRecDepth 100000 in
theorem az_mp_X8_isAsItMustBe : az_mp az_m_X8_isAsItMustBe 2 false := ⟨az_int 971 (by decide +kernel) rfl, az_int 9 (by decide +kernel) rfl, by decide +kernel, rfl, by decide +kernel, by decide +kernel, by decide +kernel, fun _ => ⟨az_int 970 (by decide +kernel) rfl, az_ins 74 (by decide +kernel) rfl⟩, fun h => absurd h (by decide), az_co_X8_isAsItMustBe⟩
set_option maxRecDepth 100000 in
theorem az_mp_X8_remember : az_mp az_m_X8_remember 1 false := ⟨az_int 979 (by decide +kernel) rfl, az_int 9 (by decide +kernel) rfl, by decide +kernel, rfl, by decide +kernel, by decide +kernel, by decide +kernel, fun _ => ⟨az_int 978 (by decide +kernel) rfl, az_ins 76 (by decide +kernel) rfl⟩, fun h => absurd h (by decide), az_co_X8_remember⟩
set_option maxRecDepth 100000 in
theorem az_mp_X8_come : az_mp az_m_X8_come 0 false := ⟨az_int 975 (by decide +kernel) rfl, az_int 9 (by decide +kernel) rfl, by decide +kernel, rfl, by decide +kernel, by decide +kernel, by decide +kernel, fun _ => ⟨az_int 974 (by decide +kernel) rfl, az_ins 75 (by decide +kernel) rfl⟩, fun h => absurd h (by decide), az_co_X8_come⟩
set_option maxRecDepth 100000 in
theorem az_mp_X8_read : az_mp az_m_X8_read 0 false := ⟨az_int 951 (by decide +kernel) rfl, az_int 9 (by decide +kernel) rfl, by decide +kernel, rfl, by decide +kernel, by decide +kernel, by decide +kernel, fun _ => ⟨az_int 950 (by decide +kernel) rfl, az_ins 69 (by decide +kernel) rfl⟩, fun h => absurd h (by decide), az_co_X8_read⟩
set_option maxRecDepth 100000 in
theorem az_mp_X8_town : az_mp az_m_X8_town 0 false := ⟨az_int 947 (by decide +kernel) rfl, az_int 9 (by decide +kernel) rfl, by decide +kernel, rfl, by decide +kernel, by decide +kernel, by decide +kernel, fun _ => ⟨az_int 945 (by decide +kernel) rfl, az_int 946 (by decide +kernel) rfl⟩, fun h => absurd h (by decide), az_co_X8_town⟩
set_option maxRecDepth 100000 in
theorem az_mp_X8_ago : az_mp az_m_X8_ago 1 false := ⟨az_int 1003 (by decide +kernel) rfl, az_int 9 (by decide +kernel) rfl, by decide +kernel, rfl, by decide +kernel, by decide +kernel, by decide +kernel, fun _ => ⟨az_int 1002 (by decide +kernel) rfl, az_ins 80 (by decide +kernel) rfl⟩, fun h => absurd h (by decide), az_co_X8_ago⟩
set_option maxRecDepth 100000 in
theorem az_mp_X8_foretold : az_mp az_m_X8_foretold 2 false := ⟨az_int 999 (by decide +kernel) rfl, az_int 9 (by decide +kernel) rfl, by decide +kernel, rfl, by decide +kernel, by decide +kernel, by decide +kernel, fun _ => ⟨az_int 998 (by decide +kernel) rfl, az_ins 79 (by decide +kernel) rfl⟩, fun h => absurd h (by decide), az_co_X8_foretold⟩
set_option maxRecDepth 100000 in
theorem az_mp_X8_isRoom : az_mp az_m_X8_isRoom 1 false := ⟨az_int 1032 (by decide +kernel) rfl, az_int 9 (by decide +kernel) rfl, by decide +kernel, rfl, by decide +kernel, by decide +kernel, by decide +kernel, fun _ => ⟨az_int 1031 (by decide +kernel) rfl, az_ins 84 (by decide +kernel) rfl⟩, fun h => absurd h (by decide), az_co_X8_isRoom⟩
set_option maxRecDepth 100000 in
theorem az_mp_X8_hat : az_mp az_m_X8_hat 1 false := ⟨az_int 1036 (by decide +kernel) rfl, az_int 9 (by decide +kernel) rfl, by decide +kernel, rfl, by decide +kernel, by decide +kernel, by decide +kernel, fun _ => ⟨az_int 1035 (by decide +kernel) rfl, az_ins 85 (by decide +kernel) rfl⟩, fun h => absurd h (by decide), az_co_X8_hat⟩
set_option maxRecDepth 100000 in
theorem az_mp_X8_present : az_mp az_m_X8_present 0 false := ⟨az_int 1028 (by decide +kernel) rfl, az_int 9 (by decide +kernel) rfl, by decide +kernel, rfl, by decide +kernel, by decide +kernel, by decide +kernel, fun _ => ⟨az_int 1027 (by decide +kernel) rfl, az_ins 83 (by decide +kernel) rfl⟩, fun h => absurd h (by decide), az_co_X8_present⟩
set_option maxRecDepth 100000 in
theorem az_mp_X8_worthGone : az_mp az_m_X8_worthGone 2 false := ⟨az_int 1057 (by decide +kernel) rfl, az_int 9 (by decide +kernel) rfl, by decide +kernel, rfl, by decide +kernel, by decide +kernel, by decide +kernel, fun _ => ⟨az_int 1056 (by decide +kernel) rfl, az_ins 87 (by decide +kernel) rfl⟩, fun h => absurd h (by decide), az_co_X8_worthGone⟩
set_option maxRecDepth 100000 in
theorem az_mp_X8_worthNext : az_mp az_m_X8_worthNext 2 false := ⟨az_int 1053 (by decide +kernel) rfl, az_int 9 (by decide +kernel) rfl, by decide +kernel, rfl, by decide +kernel, by decide +kernel, by decide +kernel, fun _ => ⟨az_int 1052 (by decide +kernel) rfl, az_ins 86 (by decide +kernel) rfl⟩, fun h => absurd h (by decide), az_co_X8_worthNext⟩
set_option maxRecDepth 100000 in
theorem az_mp_X8_goOn : az_mp az_m_X8_goOn 0 false := ⟨az_int 1024 (by decide +kernel) rfl, az_int 9 (by decide +kernel) rfl, by decide +kernel, rfl, by decide +kernel, by decide +kernel, by decide +kernel, fun _ => ⟨az_int 1023 (by decide +kernel) rfl, az_ins 82 (by decide +kernel) rfl⟩, fun h => absurd h (by decide), az_co_X8_goOn⟩
set_option maxRecDepth 100000 in
theorem az_mp_X8_isNoSort : az_mp az_m_X8_isNoSort 1 false := ⟨az_int 987 (by decide +kernel) rfl, az_int 9 (by decide +kernel) rfl, by decide +kernel, rfl, by decide +kernel, by decide +kernel, by decide +kernel, fun _ => ⟨az_int 986 (by decide +kernel) rfl, az_ins 77 (by decide +kernel) rfl⟩, fun h => absurd h (by decide), az_co_X8_isNoSort⟩
set_option maxRecDepth 100000 in
theorem az_mp_X8_sort : az_mp az_m_X8_sort 2 false := ⟨az_int 983 (by decide +kernel) rfl, az_int 9 (by decide +kernel) rfl, by decide +kernel, rfl, by decide +kernel, by decide +kernel, by decide +kernel, fun _ => ⟨az_int 981 (by decide +kernel) rfl, az_int 982 (by decide +kernel) rfl⟩, fun h => absurd h (by decide), az_co_X8_sort⟩
set_option maxRecDepth 100000 in
theorem az_mp_X8_rule : az_mp az_m_X8_rule 2 false := ⟨az_int 995 (by decide +kernel) rfl, az_int 9 (by decide +kernel) rfl, by decide +kernel, rfl, by decide +kernel, by decide +kernel, by decide +kernel, fun _ => ⟨az_int 993 (by decide +kernel) rfl, az_int 994 (by decide +kernel) rfl⟩, fun h => absurd h (by decide), az_co_X8_rule⟩
set_option maxRecDepth 100000 in
theorem az_mp_X8_remembered : az_mp az_m_X8_remembered 1 false := ⟨az_int 1012 (by decide +kernel) rfl, az_int 9 (by decide +kernel) rfl, by decide +kernel, rfl, by decide +kernel, by decide +kernel, by decide +kernel, fun _ => ⟨az_int 1010 (by decide +kernel) rfl, az_int 1011 (by decide +kernel) rfl⟩, fun h => absurd h (by decide), az_co_X8_remembered⟩
set_option maxRecDepth 100000 in
theorem az_mp_X8_penny : az_mp az_m_X8_penny 1 false := ⟨az_int 1016 (by decide +kernel) rfl, az_int 9 (by decide +kernel) rfl, by decide +kernel, rfl, by decide +kernel, by decide +kernel, by decide +kernel, fun _ => ⟨az_int 1014 (by decide +kernel) rfl, az_int 1015 (by decide +kernel) rfl⟩, fun h => absurd h (by decide), az_co_X8_penny⟩
set_option maxRecDepth 100000 in
theorem az_mp_X8_week : az_mp az_m_X8_week 0 false := ⟨az_int 1020 (by decide +kernel) rfl, az_int 9 (by decide +kernel) rfl, by decide +kernel, rfl, by decide +kernel, by decide +kernel, by decide +kernel, fun _ => ⟨az_int 1018 (by decide +kernel) rfl, az_int 1019 (by decide +kernel) rfl⟩, fun h => absurd h (by decide), az_co_X8_week⟩
set_option maxRecDepth 100000 in
theorem az_mp_X8_next : az_mp az_m_X8_next 0 false := ⟨az_int 1040 (by decide +kernel) rfl, az_int 9 (by decide +kernel) rfl, by decide +kernel, rfl, by decide +kernel, by decide +kernel, by decide +kernel, fun _ => ⟨az_int 1038 (by decide +kernel) rfl, az_int 1039 (by decide +kernel) rfl⟩, fun h => absurd h (by decide), az_co_X8_next⟩
set_option maxRecDepth 100000 in
theorem az_mp_X8_goes : az_mp az_m_X8_goes 1 false := ⟨az_int 1044 (by decide +kernel) rfl, az_int 9 (by decide +kernel) rfl, by decide +kernel, rfl, by decide +kernel, by decide +kernel, by decide +kernel, fun _ => ⟨az_int 1042 (by decide +kernel) rfl, az_int 1043 (by decide +kernel) rfl⟩, fun h => absurd h (by decide), az_co_X8_goes⟩
set_option maxRecDepth 100000 in
theorem az_mp_X8_worth : az_mp az_m_X8_worth 1 false := ⟨az_int 1048 (by decide +kernel) rfl, az_int 9 (by decide +kernel) rfl, by decide +kernel, rfl, by decide +kernel, by decide +kernel, by decide +kernel, fun _ => ⟨az_int 1046 (by decide +kernel) rfl, az_int 1047 (by decide +kernel) rfl⟩, fun h => absurd h (by decide), az_co_X8_worth⟩
set_option maxRecDepth 100000 in
theorem az_mp_X8_isWrong : az_mp az_m_X8_isWrong 2 false := ⟨az_int 1065 (by decide +kernel) rfl, az_int 9 (by decide +kernel) rfl, by decide +kernel, rfl, by decide +kernel, by decide +kernel, by decide +kernel, fun _ => ⟨az_int 1064 (by decide +kernel) rfl, az_ins 88 (by decide +kernel) rfl⟩, fun h => absurd h (by decide), az_co_X8_isWrong⟩
set_option maxRecDepth 100000 in
theorem az_mp_X8_goAhead : az_mp az_m_X8_goAhead 2 false := ⟨az_int 1069 (by decide +kernel) rfl, az_int 9 (by decide +kernel) rfl, by decide +kernel, rfl, by decide +kernel, by decide +kernel, by decide +kernel, fun _ => ⟨az_int 1068 (by decide +kernel) rfl, az_ins 89 (by decide +kernel) rfl⟩, fun h => absurd h (by decide), az_co_X8_goAhead⟩
set_option maxRecDepth 100000 in
theorem az_mp_X8_swungIn : az_mp az_m_X8_swungIn 1 false := ⟨az_int 1081 (by decide +kernel) rfl, az_int 9 (by decide +kernel) rfl, by decide +kernel, rfl, by decide +kernel, by decide +kernel, by decide +kernel, fun _ => ⟨az_int 1080 (by decide +kernel) rfl, az_ins 90 (by decide +kernel) rfl⟩, fun h => absurd h (by decide), az_co_X8_swungIn⟩
set_option maxRecDepth 100000 in
theorem az_mp_X8_after : az_mp az_m_X8_after 1 false := ⟨az_int 1061 (by decide +kernel) rfl, az_int 9 (by decide +kernel) rfl, by decide +kernel, rfl, by decide +kernel, by decide +kernel, by decide +kernel, fun _ => ⟨az_int 1059 (by decide +kernel) rfl, az_int 1060 (by decide +kernel) rfl⟩, fun h => absurd h (by decide), az_co_X8_after⟩
set_option maxRecDepth 100000 in
theorem az_mp_X8_mean : az_mp az_m_X8_mean 1 false := ⟨az_int 1073 (by decide +kernel) rfl, az_int 9 (by decide +kernel) rfl, by decide +kernel, rfl, by decide +kernel, by decide +kernel, by decide +kernel, fun _ => ⟨az_int 1071 (by decide +kernel) rfl, az_int 1072 (by decide +kernel) rfl⟩, fun h => absurd h (by decide), az_co_X8_mean⟩
set_option maxRecDepth 100000 in
theorem az_mp_X8_swing : az_mp az_m_X8_swing 1 false := ⟨az_int 1077 (by decide +kernel) rfl, az_int 9 (by decide +kernel) rfl, by decide +kernel, rfl, by decide +kernel, by decide +kernel, by decide +kernel, fun _ => ⟨az_int 1075 (by decide +kernel) rfl, az_int 1076 (by decide +kernel) rfl⟩, fun h => absurd h (by decide), az_co_X8_swing⟩
set_option maxRecDepth 100000 in
theorem az_mp_X8_good : az_mp az_m_X8_good 1 false := ⟨az_int 1086 (by decide +kernel) rfl, az_int 9 (by decide +kernel) rfl, by decide +kernel, rfl, by decide +kernel, by decide +kernel, by decide +kernel, fun _ => ⟨az_int 1084 (by decide +kernel) rfl, az_int 1085 (by decide +kernel) rfl⟩, fun h => absurd h (by decide), az_co_X8_good⟩
set_option maxRecDepth 100000 in
theorem az_mp_X8_again : az_mp az_m_X8_again 0 false := ⟨az_int 1090 (by decide +kernel) rfl, az_int 9 (by decide +kernel) rfl, by decide +kernel, rfl, by decide +kernel, by decide +kernel, by decide +kernel, fun _ => ⟨az_int 1088 (by decide +kernel) rfl, az_int 1089 (by decide +kernel) rfl⟩, fun h => absurd h (by decide), az_co_X8_again⟩
set_option maxRecDepth 100000 in
theorem az_mp_X8_gains : az_mp az_m_X8_gains 2 false := ⟨az_int 1094 (by decide +kernel) rfl, az_int 9 (by decide +kernel) rfl, by decide +kernel, rfl, by decide +kernel, by decide +kernel, by decide +kernel, fun _ => ⟨az_int 1092 (by decide +kernel) rfl, az_int 1093 (by decide +kernel) rfl⟩, fun h => absurd h (by decide), az_co_X8_gains⟩
set_option maxRecDepth 100000 in
theorem az_mp_X8_begin : az_mp az_m_X8_begin 0 false := ⟨az_int 1106 (by decide +kernel) rfl, az_int 9 (by decide +kernel) rfl, by decide +kernel, rfl, by decide +kernel, by decide +kernel, by decide +kernel, fun _ => ⟨az_int 1105 (by decide +kernel) rfl, az_ins 92 (by decide +kernel) rfl⟩, fun h => absurd h (by decide), az_co_X8_begin⟩
set_option maxRecDepth 100000 in
theorem az_mp_X8_isNextPlan : az_mp az_m_X8_isNextPlan 0 false := ⟨az_int 1114 (by decide +kernel) rfl, az_int 9 (by decide +kernel) rfl, by decide +kernel, rfl, by decide +kernel, by decide +kernel, by decide +kernel, fun _ => ⟨az_int 1113 (by decide +kernel) rfl, az_ins 94 (by decide +kernel) rfl⟩, fun h => absurd h (by decide), az_co_X8_isNextPlan⟩
set_option maxRecDepth 100000 in
theorem az_mp_X8_isAtRest : az_mp az_m_X8_isAtRest 1 false := ⟨az_int 1110 (by decide +kernel) rfl, az_int 9 (by decide +kernel) rfl, by decide +kernel, rfl, by decide +kernel, by decide +kernel, by decide +kernel, fun _ => ⟨az_int 1109 (by decide +kernel) rfl, az_ins 93 (by decide +kernel) rfl⟩, fun h => absurd h (by decide), az_co_X8_isAtRest⟩
set_option maxRecDepth 100000 in
theorem az_mp_X8_goThrough : az_mp az_m_X8_goThrough 0 false := ⟨az_int 1102 (by decide +kernel) rfl, az_int 9 (by decide +kernel) rfl, by decide +kernel, rfl, by decide +kernel, by decide +kernel, by decide +kernel, fun _ => ⟨az_int 1101 (by decide +kernel) rfl, az_ins 91 (by decide +kernel) rfl⟩, fun h => absurd h (by decide), az_co_X8_goThrough⟩
set_option maxRecDepth 100000 in
theorem az_mp_X8_rests : az_mp az_m_X8_rests 0 false := ⟨az_int 1098 (by decide +kernel) rfl, az_int 9 (by decide +kernel) rfl, by decide +kernel, rfl, by decide +kernel, by decide +kernel, by decide +kernel, fun _ => ⟨az_int 1096 (by decide +kernel) rfl, az_int 1097 (by decide +kernel) rfl⟩, fun h => absurd h (by decide), az_co_X8_rests⟩
set_option maxRecDepth 100000 in
theorem az_mp_X8_rest : az_mp az_m_X8_rest 1 false := ⟨az_int 1118 (by decide +kernel) rfl, az_int 9 (by decide +kernel) rfl, by decide +kernel, rfl, by decide +kernel, by decide +kernel, by decide +kernel, fun _ => ⟨az_int 1116 (by decide +kernel) rfl, az_int 1117 (by decide +kernel) rfl⟩, fun h => absurd h (by decide), az_co_X8_rest⟩
set_option maxRecDepth 100000 in
theorem az_mp_X8_best : az_mp az_m_X8_best 1 false := ⟨az_int 1122 (by decide +kernel) rfl, az_int 9 (by decide +kernel) rfl, by decide +kernel, rfl, by decide +kernel, by decide +kernel, by decide +kernel, fun _ => ⟨az_int 1120 (by decide +kernel) rfl, az_int 1121 (by decide +kernel) rfl⟩, fun h => absurd h (by decide), az_co_X8_best⟩
set_option maxRecDepth 100000 in
theorem az_mp_X8_off : az_mp az_m_X8_off 0 false := ⟨az_int 1126 (by decide +kernel) rfl, az_int 9 (by decide +kernel) rfl, by decide +kernel, rfl, by decide +kernel, by decide +kernel, by decide +kernel, fun _ => ⟨az_int 1124 (by decide +kernel) rfl, az_int 1125 (by decide +kernel) rfl⟩, fun h => absurd h (by decide), az_co_X8_off⟩
set_option maxRecDepth 100000 in
theorem az_mp_X8_pennies : az_mp az_m_X8_pennies 0 false := ⟨az_int 1130 (by decide +kernel) rfl, az_int 9 (by decide +kernel) rfl, by decide +kernel, rfl, by decide +kernel, by decide +kernel, by decide +kernel, fun _ => ⟨az_int 1128 (by decide +kernel) rfl, az_int 1129 (by decide +kernel) rfl⟩, fun h => absurd h (by decide), az_co_X8_pennies⟩
set_option maxRecDepth 100000 in
theorem az_mp_X8_chairs : az_mp az_m_X8_chairs 0 false := ⟨az_int 1134 (by decide +kernel) rfl, az_int 9 (by decide +kernel) rfl, by decide +kernel, rfl, by decide +kernel, by decide +kernel, by decide +kernel, fun _ => ⟨az_int 1132 (by decide +kernel) rfl, az_int 1133 (by decide +kernel) rfl⟩, fun h => absurd h (by decide), az_co_X8_chairs⟩
set_option maxRecDepth 100000 in
theorem az_mp_X8_sees : az_mp az_m_X8_sees 4 false := ⟨az_int 1138 (by decide +kernel) rfl, az_int 9 (by decide +kernel) rfl, by decide +kernel, rfl, by decide +kernel, by decide +kernel, by decide +kernel, fun _ => ⟨az_int 1136 (by decide +kernel) rfl, az_int 1137 (by decide +kernel) rfl⟩, fun h => absurd h (by decide), az_co_X8_sees⟩
set_option maxRecDepth 100000 in
theorem az_mp_X8_which : az_mp az_m_X8_which 1 false := ⟨az_int 1142 (by decide +kernel) rfl, az_int 9 (by decide +kernel) rfl, by decide +kernel, rfl, by decide +kernel, by decide +kernel, by decide +kernel, fun _ => ⟨az_int 1140 (by decide +kernel) rfl, az_int 1141 (by decide +kernel) rfl⟩, fun h => absurd h (by decide), az_co_X8_which⟩
set_option maxRecDepth 100000 in
theorem az_mp_X8_longer : az_mp az_m_X8_longer 1 false := ⟨az_int 1146 (by decide +kernel) rfl, az_int 9 (by decide +kernel) rfl, by decide +kernel, rfl, by decide +kernel, by decide +kernel, by decide +kernel, fun _ => ⟨az_int 1144 (by decide +kernel) rfl, az_int 1145 (by decide +kernel) rfl⟩, fun h => absurd h (by decide), az_co_X8_longer⟩
set_option maxRecDepth 100000 in
theorem az_mp_X8_seeds : az_mp az_m_X8_seeds 2 false := ⟨az_int 1150 (by decide +kernel) rfl, az_int 9 (by decide +kernel) rfl, by decide +kernel, rfl, by decide +kernel, by decide +kernel, by decide +kernel, fun _ => ⟨az_int 1148 (by decide +kernel) rfl, az_int 1149 (by decide +kernel) rfl⟩, fun h => absurd h (by decide), az_co_X8_seeds⟩
set_option maxRecDepth 100000 in
theorem az_mp_X8_row : az_mp az_m_X8_row 1 false := ⟨az_int 1157 (by decide +kernel) rfl, az_int 9 (by decide +kernel) rfl, by decide +kernel, rfl, by decide +kernel, by decide +kernel, by decide +kernel, fun _ => ⟨az_int 1155 (by decide +kernel) rfl, az_int 1156 (by decide +kernel) rfl⟩, fun h => absurd h (by decide), az_co_X8_row⟩
set_option maxRecDepth 100000 in
theorem az_mp_X8_judge : az_mp az_m_X8_judge 0 false := ⟨az_int 1161 (by decide +kernel) rfl, az_int 9 (by decide +kernel) rfl, by decide +kernel, rfl, by decide +kernel, by decide +kernel, by decide +kernel, fun _ => ⟨az_int 1159 (by decide +kernel) rfl, az_int 1160 (by decide +kernel) rfl⟩, fun h => absurd h (by decide), az_co_X8_judge⟩
set_option maxRecDepth 100000 in
theorem az_mp_X8_count : az_mp az_m_X8_count 1 false := ⟨az_int 1165 (by decide +kernel) rfl, az_int 9 (by decide +kernel) rfl, by decide +kernel, rfl, by decide +kernel, by decide +kernel, by decide +kernel, fun _ => ⟨az_int 1163 (by decide +kernel) rfl, az_int 1164 (by decide +kernel) rfl⟩, fun h => absurd h (by decide), az_co_X8_count⟩
set_option maxRecDepth 100000 in
theorem az_mp_J0_length_8abf5 : az_mp az_m_J0_length_8abf5 0 false := ⟨az_int 346 (by decide +kernel) rfl, az_int 11 (by decide +kernel) rfl, by decide +kernel, rfl, by decide +kernel, by decide +kernel, by decide +kernel, fun _ => ⟨az_int 344 (by decide +kernel) rfl, az_int 345 (by decide +kernel) rfl⟩, fun h => absurd h (by decide), az_co_J0_length_8abf5⟩
set_option maxRecDepth 100000 in
theorem az_mp_J0_isEmpty_aae02 : az_mp az_m_J0_isEmpty_aae02 0 false := ⟨az_int 342 (by decide +kernel) rfl, az_int 11 (by decide +kernel) rfl, by decide +kernel, rfl, by decide +kernel, by decide +kernel, by decide +kernel, fun _ => ⟨az_int 340 (by decide +kernel) rfl, az_int 341 (by decide +kernel) rfl⟩, fun h => absurd h (by decide), az_co_J0_isEmpty_aae02⟩
set_option maxRecDepth 100000 in
theorem az_mp_J0_charAt_5068e : az_mp az_m_J0_charAt_5068e 1 false := ⟨az_int 356 (by decide +kernel) rfl, az_int 11 (by decide +kernel) rfl, by decide +kernel, rfl, by decide +kernel, by decide +kernel, by decide +kernel, fun _ => ⟨az_int 354 (by decide +kernel) rfl, az_int 355 (by decide +kernel) rfl⟩, fun h => absurd h (by decide), az_co_J0_charAt_5068e⟩
set_option maxRecDepth 100000 in
theorem az_mp_J0_indexOf_0f7a4 : az_mp az_m_J0_indexOf_0f7a4 1 false := ⟨az_int 403 (by decide +kernel) rfl, az_int 11 (by decide +kernel) rfl, by decide +kernel, rfl, by decide +kernel, by decide +kernel, by decide +kernel, fun _ => ⟨az_int 401 (by decide +kernel) rfl, az_int 402 (by decide +kernel) rfl⟩, fun h => absurd h (by decide), az_co_J0_indexOf_0f7a4⟩
set_option maxRecDepth 100000 in
theorem az_mp_J0_indexOf_7cf53 : az_mp az_m_J0_indexOf_7cf53 2 false := ⟨az_int 407 (by decide +kernel) rfl, az_int 11 (by decide +kernel) rfl, by decide +kernel, rfl, by decide +kernel, by decide +kernel, by decide +kernel, fun _ => ⟨az_int 405 (by decide +kernel) rfl, az_int 406 (by decide +kernel) rfl⟩, fun h => absurd h (by decide), az_co_J0_indexOf_7cf53⟩
set_option maxRecDepth 100000 in
theorem az_mp_J0_coder_7d493 : az_mp az_m_J0_coder_7d493 0 false := ⟨az_int 350 (by decide +kernel) rfl, az_int 11 (by decide +kernel) rfl, by decide +kernel, rfl, by decide +kernel, by decide +kernel, by decide +kernel, fun _ => ⟨az_int 348 (by decide +kernel) rfl, az_int 349 (by decide +kernel) rfl⟩, fun h => absurd h (by decide), az_co_J0_coder_7d493⟩
set_option maxRecDepth 100000 in
theorem az_mp_J0_isLatin1_aae02 : az_mp az_m_J0_isLatin1_aae02 0 false := ⟨az_int 360 (by decide +kernel) rfl, az_int 11 (by decide +kernel) rfl, by decide +kernel, rfl, by decide +kernel, by decide +kernel, by decide +kernel, fun _ => ⟨az_int 358 (by decide +kernel) rfl, az_int 359 (by decide +kernel) rfl⟩, fun h => absurd h (by decide), az_co_J0_isLatin1_aae02⟩
set_option maxRecDepth 100000 in
theorem az_mp_J1_charAt_3b067 : az_mp az_m_J1_charAt_3b067 2 true := ⟨az_int 363 (by decide +kernel) rfl, az_int 12 (by decide +kernel) rfl, by decide +kernel, rfl, by decide +kernel, by decide +kernel, by decide +kernel, fun h => absurd h (by decide), fun _ => az_int 362 (by decide +kernel) rfl, az_co_J1_charAt_3b067⟩
set_option maxRecDepth 100000 in
theorem az_mp_J1_canEncode_9a6ad : az_mp az_m_J1_canEncode_9a6ad 1 true := ⟨az_int 414 (by decide +kernel) rfl, az_int 12 (by decide +kernel) rfl, by decide +kernel, rfl, by decide +kernel, by decide +kernel, by decide +kernel, fun h => absurd h (by decide), fun _ => az_int 413 (by decide +kernel) rfl, az_co_J1_canEncode_9a6ad⟩
set_option maxRecDepth 100000 in
theorem az_mp_J1_indexOf_4cfef : az_mp az_m_J1_indexOf_4cfef 4 true := ⟨az_int 411 (by decide +kernel) rfl, az_int 12 (by decide +kernel) rfl, by decide +kernel, rfl, by decide +kernel, by decide +kernel, by decide +kernel, fun h => absurd h (by decide), fun _ => az_int 410 (by decide +kernel) rfl, az_co_J1_indexOf_4cfef⟩
set_option maxRecDepth 100000 in
theorem az_mp_J1_indexOfChar_4cfef : az_mp az_m_J1_indexOfChar_4cfef 4 true := ⟨az_int 421 (by decide +kernel) rfl, az_int 12 (by decide +kernel) rfl, by decide +kernel, rfl, by decide +kernel, by decide +kernel, by decide +kernel, fun h => absurd h (by decide), fun _ => az_int 420 (by decide +kernel) rfl, az_co_J1_indexOfChar_4cfef⟩
set_option maxRecDepth 100000 in
theorem az_mp_J0_checkIndex_df160 : az_mp az_m_J0_checkIndex_df160 2 true := ⟨az_int 366 (by decide +kernel) rfl, az_int 11 (by decide +kernel) rfl, by decide +kernel, rfl, by decide +kernel, by decide +kernel, by decide +kernel, fun h => absurd h (by decide), fun _ => az_int 365 (by decide +kernel) rfl, az_co_J0_checkIndex_df160⟩
set_option maxRecDepth 100000 in
theorem az_mp_J3_checkIndex_8e157 : az_mp az_m_J3_checkIndex_8e157 3 true := ⟨az_int 371 (by decide +kernel) rfl, az_int 13 (by decide +kernel) rfl, by decide +kernel, rfl, by decide +kernel, by decide +kernel, by decide +kernel, fun h => absurd h (by decide), fun _ => az_int 370 (by decide +kernel) rfl, az_co_J3_checkIndex_8e157⟩
set_option maxRecDepth 100000 in
theorem az_ml_0_37 : az_mlp 0 37 3 az_m_X7_put 3 := ⟨_, _, az_mp_X7_put, Or.inr (Or.inr (Or.inr ⟨rfl, rfl, rfl, ⟨"GoodHalfEmpty", az_inn 697 (by decide +kernel) rfl⟩⟩))⟩
set_option maxRecDepth 100000 in
theorem az_ml_0_47 : az_mlp 0 47 3 az_m_X7_at 2 := ⟨_, _, az_mp_X7_at, Or.inr (Or.inr (Or.inr ⟨rfl, rfl, rfl, ⟨"GoodHalfEmpty", az_inn 707 (by decide +kernel) rfl⟩⟩))⟩
set_option maxRecDepth 100000 in
theorem az_ml_0_51 : az_mlp 0 51 0 az_m_X0_hasPlan 1 := ⟨_, _, az_mp_X0_hasPlan, Or.inl ⟨rfl, rfl, rfl, az_int 703 (by decide +kernel) rfl⟩⟩
set_option maxRecDepth 100000 in
theorem az_ml_0_55 : az_mlp 0 55 0 az_m_X0_countWays 1 := ⟨_, _, az_mp_X0_countWays, Or.inl ⟨rfl, rfl, rfl, az_int 708 (by decide +kernel) rfl⟩⟩
set_option maxRecDepth 100000 in
theorem az_ml_0_61 : az_mlp 0 61 0 az_m_X0_greatestGain 2 := ⟨_, _, az_mp_X0_greatestGain, Or.inl ⟨rfl, rfl, rfl, az_int 736 (by decide +kernel) rfl⟩⟩
set_option maxRecDepth 100000 in
theorem az_ml_0_66 : az_mlp 0 66 0 az_m_X0_greatestWorth 1 := ⟨_, _, az_mp_X0_greatestWorth, Or.inl ⟨rfl, rfl, rfl, az_int 732 (by decide +kernel) rfl⟩⟩
set_option maxRecDepth 100000 in
theorem az_ml_0_ok : ∀ q ∈ az_ml_0, az_mlp 0 q.1 q.2.1 q.2.2.1 q.2.2.2 := List.forall_mem_cons.mpr ⟨az_ml_0_37, List.forall_mem_cons.mpr ⟨az_ml_0_47, List.forall_mem_cons.mpr ⟨az_ml_0_51, List.forall_mem_cons.mpr ⟨az_ml_0_55, List.forall_mem_cons.mpr ⟨az_ml_0_61, List.forall_mem_cons.mpr ⟨az_ml_0_66, fun _ h => absurd h List.not_mem_nil⟩⟩⟩⟩⟩⟩
set_option maxRecDepth 100000 in
theorem az_ml_1_19 : az_mlp 1 19 3 az_m_X7_copyRow 2 := ⟨_, _, az_mp_X7_copyRow, Or.inr (Or.inr (Or.inr ⟨rfl, rfl, rfl, ⟨"GoodHalfEmpty", az_inn 309 (by decide +kernel) rfl⟩⟩))⟩
set_option maxRecDepth 100000 in
theorem az_ml_1_23 : az_mlp 1 23 3 az_m_X7_at 2 := ⟨_, _, az_mp_X7_at, Or.inr (Or.inr (Or.inr ⟨rfl, rfl, rfl, ⟨"GoodHalfEmpty", az_inn 482 (by decide +kernel) rfl⟩⟩))⟩
set_option maxRecDepth 100000 in
theorem az_ml_1_27 : az_mlp 1 27 3 az_m_X7_put 3 := ⟨_, _, az_mp_X7_put, Or.inr (Or.inr (Or.inr ⟨rfl, rfl, rfl, ⟨"GoodHalfEmpty", az_inn 483 (by decide +kernel) rfl⟩⟩))⟩
set_option maxRecDepth 100000 in
theorem az_ml_1_ok : ∀ q ∈ az_ml_1, az_mlp 1 q.1 q.2.1 q.2.2.1 q.2.2.2 := List.forall_mem_cons.mpr ⟨az_ml_1_19, List.forall_mem_cons.mpr ⟨az_ml_1_23, List.forall_mem_cons.mpr ⟨az_ml_1_27, fun _ h => absurd h List.not_mem_nil⟩⟩⟩
set_option maxRecDepth 100000 in
theorem az_ml_2_30 : az_mlp 2 30 0 az_m_X2_boxResting 5 := ⟨_, _, az_mp_X2_boxResting, Or.inl ⟨rfl, rfl, rfl, az_int 680 (by decide +kernel) rfl⟩⟩
set_option maxRecDepth 100000 in
theorem az_ml_2_34 : az_mlp 2 34 1 az_m_X0_plans 1 := ⟨_, _, az_mp_X0_plans, Or.inr (Or.inl ⟨rfl, rfl, rfl, ⟨"GoodHalfEmpty", az_inn 699 (by decide +kernel) rfl⟩⟩)⟩
set_option maxRecDepth 100000 in
theorem az_ml_2_38 : az_mlp 2 38 1 az_m_X0_hasPlan 1 := ⟨_, _, az_mp_X0_hasPlan, Or.inr (Or.inl ⟨rfl, rfl, rfl, ⟨"GoodHalfEmpty", az_inn 721 (by decide +kernel) rfl⟩⟩)⟩
set_option maxRecDepth 100000 in
theorem az_ml_2_43 : az_mlp 2 43 0 az_m_X2_offerFirst 2 := ⟨_, _, az_mp_X2_offerFirst, Or.inl ⟨rfl, rfl, rfl, az_int 723 (by decide +kernel) rfl⟩⟩
set_option maxRecDepth 100000 in
theorem az_ml_2_47 : az_mlp 2 47 1 az_m_X0_greatestWorth 1 := ⟨_, _, az_mp_X0_greatestWorth, Or.inr (Or.inl ⟨rfl, rfl, rfl, ⟨"GoodHalfEmpty", az_inn 761 (by decide +kernel) rfl⟩⟩)⟩
set_option maxRecDepth 100000 in
theorem az_ml_2_56 : az_mlp 2 56 0 az_m_X2_boxAll 5 := ⟨_, _, az_mp_X2_boxAll, Or.inl ⟨rfl, rfl, rfl, az_int 757 (by decide +kernel) rfl⟩⟩
set_option maxRecDepth 100000 in
theorem az_ml_2_59 : az_mlp 2 59 0 az_m_X2_bestWorth 4 := ⟨_, _, az_mp_X2_bestWorth, Or.inl ⟨rfl, rfl, rfl, az_int 767 (by decide +kernel) rfl⟩⟩
set_option maxRecDepth 100000 in
theorem az_ml_2_63 : az_mlp 2 63 3 az_m_X7_at 2 := ⟨_, _, az_mp_X7_at, Or.inr (Or.inr (Or.inr ⟨rfl, rfl, rfl, ⟨"GoodHalfEmpty", az_inn 692 (by decide +kernel) rfl⟩⟩))⟩
set_option maxRecDepth 100000 in
theorem az_ml_2_67 : az_mlp 2 67 1 az_m_X0_keepFirst 2 := ⟨_, _, az_mp_X0_keepFirst, Or.inr (Or.inl ⟨rfl, rfl, rfl, ⟨"GoodHalfEmpty", az_inn 727 (by decide +kernel) rfl⟩⟩)⟩
set_option maxRecDepth 100000 in
theorem az_ml_2_70 : az_mlp 2 70 0 az_m_X2_isBoxBeforeFirst 1 := ⟨_, _, az_mp_X2_isBoxBeforeFirst, Or.inl ⟨rfl, rfl, rfl, az_int 740 (by decide +kernel) rfl⟩⟩
set_option maxRecDepth 100000 in
theorem az_ml_2_76 : az_mlp 2 76 3 az_m_X7_copyRow 2 := ⟨_, _, az_mp_X7_copyRow, Or.inr (Or.inr (Or.inr ⟨rfl, rfl, rfl, ⟨"GoodHalfEmpty", az_inn 744 (by decide +kernel) rfl⟩⟩))⟩
set_option maxRecDepth 100000 in
theorem az_ml_2_83 : az_mlp 2 83 1 az_m_X0_begin 3 := ⟨_, _, az_mp_X0_begin, Or.inr (Or.inl ⟨rfl, rfl, rfl, ⟨"GoodHalfEmpty", az_inn 688 (by decide +kernel) rfl⟩⟩)⟩
set_option maxRecDepth 100000 in
theorem az_ml_2_87 : az_mlp 2 87 0 az_m_X2_beginBand 3 := ⟨_, _, az_mp_X2_beginBand, Or.inl ⟨rfl, rfl, rfl, az_int 684 (by decide +kernel) rfl⟩⟩
set_option maxRecDepth 100000 in
theorem az_ml_2_105 : az_mlp 2 105 1 az_m_X0_add 6 := ⟨_, _, az_mp_X0_add, Or.inr (Or.inl ⟨rfl, rfl, rfl, ⟨"GoodHalfEmpty", az_inn 693 (by decide +kernel) rfl⟩⟩)⟩
set_option maxRecDepth 100000 in
theorem az_ml_2_ok : ∀ q ∈ az_ml_2, az_mlp 2 q.1 q.2.1 q.2.2.1 q.2.2.2 := List.forall_mem_cons.mpr ⟨az_ml_2_30, List.forall_mem_cons.mpr ⟨az_ml_2_34, List.forall_mem_cons.mpr ⟨az_ml_2_38, List.forall_mem_cons.mpr ⟨az_ml_2_43, List.forall_mem_cons.mpr ⟨az_ml_2_47, List.forall_mem_cons.mpr ⟨az_ml_2_56, List.forall_mem_cons.mpr ⟨az_ml_2_59, List.forall_mem_cons.mpr ⟨az_ml_2_63, List.forall_mem_cons.mpr ⟨az_ml_2_67, List.forall_mem_cons.mpr ⟨az_ml_2_70, List.forall_mem_cons.mpr ⟨az_ml_2_76, List.forall_mem_cons.mpr ⟨az_ml_2_83, List.forall_mem_cons.mpr ⟨az_ml_2_87, List.forall_mem_cons.mpr ⟨az_ml_2_105, fun _ h => absurd h List.not_mem_nil⟩⟩⟩⟩⟩⟩⟩⟩⟩⟩⟩⟩⟩⟩
set_option maxRecDepth 100000 in
theorem az_ml_3_25 : az_mlp 3 25 3 az_m_X7_copyRow 2 := ⟨_, _, az_mp_X7_copyRow, Or.inr (Or.inr (Or.inr ⟨rfl, rfl, rfl, ⟨"GoodHalfEmpty", az_inn 304 (by decide +kernel) rfl⟩⟩))⟩
set_option maxRecDepth 100000 in
theorem az_ml_3_29 : az_mlp 3 29 3 az_m_X7_put 3 := ⟨_, _, az_mp_X7_put, Or.inr (Or.inr (Or.inr ⟨rfl, rfl, rfl, ⟨"GoodHalfEmpty", az_inn 489 (by decide +kernel) rfl⟩⟩))⟩
set_option maxRecDepth 100000 in
theorem az_ml_3_33 : az_mlp 3 33 3 az_m_X7_at 2 := ⟨_, _, az_mp_X7_at, Or.inr (Or.inr (Or.inr ⟨rfl, rfl, rfl, ⟨"GoodHalfEmpty", az_inn 582 (by decide +kernel) rfl⟩⟩))⟩
set_option maxRecDepth 100000 in
theorem az_ml_3_ok : ∀ q ∈ az_ml_3, az_mlp 3 q.1 q.2.1 q.2.2.1 q.2.2.2 := List.forall_mem_cons.mpr ⟨az_ml_3_25, List.forall_mem_cons.mpr ⟨az_ml_3_29, List.forall_mem_cons.mpr ⟨az_ml_3_33, fun _ h => absurd h List.not_mem_nil⟩⟩⟩
set_option maxRecDepth 100000 in
theorem az_ml_4_34 : az_mlp 4 34 3 az_m_X7_copyRow 2 := ⟨_, _, az_mp_X7_copyRow, Or.inr (Or.inr (Or.inr ⟨rfl, rfl, rfl, ⟨"GoodHalfEmpty", az_inn 297 (by decide +kernel) rfl⟩⟩))⟩
set_option maxRecDepth 100000 in
theorem az_ml_4_38 : az_mlp 4 38 3 az_m_X7_put 3 := ⟨_, _, az_mp_X7_put, Or.inr (Or.inr (Or.inr ⟨rfl, rfl, rfl, ⟨"GoodHalfEmpty", az_inn 506 (by decide +kernel) rfl⟩⟩))⟩
set_option maxRecDepth 100000 in
theorem az_ml_4_42 : az_mlp 4 42 3 az_m_X7_at 2 := ⟨_, _, az_mp_X7_at, Or.inr (Or.inr (Or.inr ⟨rfl, rfl, rfl, ⟨"GoodHalfEmpty", az_inn 537 (by decide +kernel) rfl⟩⟩))⟩
set_option maxRecDepth 100000 in
theorem az_ml_4_ok : ∀ q ∈ az_ml_4, az_mlp 4 q.1 q.2.1 q.2.2.1 q.2.2.2 := List.forall_mem_cons.mpr ⟨az_ml_4_34, List.forall_mem_cons.mpr ⟨az_ml_4_38, List.forall_mem_cons.mpr ⟨az_ml_4_42, fun _ h => absurd h List.not_mem_nil⟩⟩⟩
set_option maxRecDepth 100000 in
theorem az_ml_5_19 : az_mlp 5 19 3 az_m_X7_put 3 := ⟨_, _, az_mp_X7_put, Or.inr (Or.inr (Or.inr ⟨rfl, rfl, rfl, ⟨"GoodHalfEmpty", az_inn 281 (by decide +kernel) rfl⟩⟩))⟩
set_option maxRecDepth 100000 in
theorem az_ml_5_29 : az_mlp 5 29 0 az_m_X5_badPlace 1 := ⟨_, _, az_mp_X5_badPlace, Or.inl ⟨rfl, rfl, rfl, az_int 314 (by decide +kernel) rfl⟩⟩
set_option maxRecDepth 100000 in
theorem az_ml_5_33 : az_mlp 5 33 0 az_m_X5_tellStatement 3 := ⟨_, _, az_mp_X5_tellStatement, Or.inl ⟨rfl, rfl, rfl, az_int 458 (by decide +kernel) rfl⟩⟩
set_option maxRecDepth 100000 in
theorem az_ml_5_37 : az_mlp 5 37 0 az_m_X5_formAt 2 := ⟨_, _, az_mp_X5_formAt, Or.inl ⟨rfl, rfl, rfl, az_int 318 (by decide +kernel) rfl⟩⟩
set_option maxRecDepth 100000 in
theorem az_ml_5_41 : az_mlp 5 41 0 az_m_J0_length_8abf5 1 := ⟨_, _, az_mp_J0_length_8abf5, Or.inl ⟨rfl, rfl, rfl, az_int 343 (by decide +kernel) rfl⟩⟩
set_option maxRecDepth 100000 in
theorem az_ml_5_46 : az_mlp 5 46 0 az_m_J0_isEmpty_aae02 1 := ⟨_, _, az_mp_J0_isEmpty_aae02, Or.inl ⟨rfl, rfl, rfl, az_int 339 (by decide +kernel) rfl⟩⟩
set_option maxRecDepth 100000 in
theorem az_ml_5_50 : az_mlp 5 50 0 az_m_J0_charAt_5068e 2 := ⟨_, _, az_mp_J0_charAt_5068e, Or.inl ⟨rfl, rfl, rfl, az_int 353 (by decide +kernel) rfl⟩⟩
set_option maxRecDepth 100000 in
theorem az_ml_5_54 : az_mlp 5 54 0 az_m_X5_fits 3 := ⟨_, _, az_mp_X5_fits, Or.inl ⟨rfl, rfl, rfl, az_int 391 (by decide +kernel) rfl⟩⟩
set_option maxRecDepth 100000 in
theorem az_ml_5_58 : az_mlp 5 58 0 az_m_X5_letterAt 2 := ⟨_, _, az_mp_X5_letterAt, Or.inl ⟨rfl, rfl, rfl, az_int 322 (by decide +kernel) rfl⟩⟩
set_option maxRecDepth 100000 in
theorem az_ml_5_62 : az_mlp 5 62 0 az_m_X5_numberForm 2 := ⟨_, _, az_mp_X5_numberForm, Or.inl ⟨rfl, rfl, rfl, az_int 326 (by decide +kernel) rfl⟩⟩
set_option maxRecDepth 100000 in
theorem az_ml_5_71 : az_mlp 5 71 0 az_m_X5_isDigit 2 := ⟨_, _, az_mp_X5_isDigit, Or.inl ⟨rfl, rfl, rfl, az_int 330 (by decide +kernel) rfl⟩⟩
set_option maxRecDepth 100000 in
theorem az_ml_5_81 : az_mlp 5 81 0 az_m_X5_kindAt 3 := ⟨_, _, az_mp_X5_kindAt, Or.inl ⟨rfl, rfl, rfl, az_int 396 (by decide +kernel) rfl⟩⟩
set_option maxRecDepth 100000 in
theorem az_ml_5_87 : az_mlp 5 87 0 az_m_X5_numberAt 2 := ⟨_, _, az_mp_X5_numberAt, Or.inl ⟨rfl, rfl, rfl, az_int 462 (by decide +kernel) rfl⟩⟩
set_option maxRecDepth 100000 in
theorem az_ml_5_90 : az_mlp 5 90 1 az_m_X6_setChairs 2 := ⟨_, _, az_mp_X6_setChairs, Or.inr (Or.inl ⟨rfl, rfl, rfl, ⟨"GoodHalfEmpty", az_inn 470 (by decide +kernel) rfl⟩⟩)⟩
set_option maxRecDepth 100000 in
theorem az_ml_5_95 : az_mlp 5 95 1 az_m_X6_addWeek 2 := ⟨_, _, az_mp_X6_addWeek, Or.inr (Or.inl ⟨rfl, rfl, rfl, ⟨"GoodHalfEmpty", az_inn 474 (by decide +kernel) rfl⟩⟩)⟩
set_option maxRecDepth 100000 in
theorem az_ml_5_102 : az_mlp 5 102 0 az_m_X5_digitAt 2 := ⟨_, _, az_mp_X5_digitAt, Or.inl ⟨rfl, rfl, rfl, az_int 466 (by decide +kernel) rfl⟩⟩
set_option maxRecDepth 100000 in
theorem az_ml_5_105 : az_mlp 5 105 1 az_m_X3_add 3 := ⟨_, _, az_mp_X3_add, Or.inr (Or.inl ⟨rfl, rfl, rfl, ⟨"GoodHalfEmpty", az_inn 485 (by decide +kernel) rfl⟩⟩)⟩
set_option maxRecDepth 100000 in
theorem az_ml_5_111 : az_mlp 5 111 0 az_m_X5_tellSort 3 := ⟨_, _, az_mp_X5_tellSort, Or.inl ⟨rfl, rfl, rfl, az_int 490 (by decide +kernel) rfl⟩⟩
set_option maxRecDepth 100000 in
theorem az_ml_5_114 : az_mlp 5 114 1 az_m_X6_mayFollow 3 := ⟨_, _, az_mp_X6_mayFollow, Or.inr (Or.inl ⟨rfl, rfl, rfl, ⟨"GoodHalfEmpty", az_inn 494 (by decide +kernel) rfl⟩⟩)⟩
set_option maxRecDepth 100000 in
theorem az_ml_5_121 : az_mlp 5 121 1 az_m_X4_add 7 := ⟨_, _, az_mp_X4_add, Or.inr (Or.inl ⟨rfl, rfl, rfl, ⟨"GoodHalfEmpty", az_inn 502 (by decide +kernel) rfl⟩⟩)⟩
set_option maxRecDepth 100000 in
theorem az_ml_5_126 : az_mlp 5 126 0 az_m_J0_indexOf_0f7a4 2 := ⟨_, _, az_mp_J0_indexOf_0f7a4, Or.inl ⟨rfl, rfl, rfl, az_int 400 (by decide +kernel) rfl⟩⟩
set_option maxRecDepth 100000 in
theorem az_ml_5_ok : ∀ q ∈ az_ml_5, az_mlp 5 q.1 q.2.1 q.2.2.1 q.2.2.2 := List.forall_mem_cons.mpr ⟨az_ml_5_19, List.forall_mem_cons.mpr ⟨az_ml_5_29, List.forall_mem_cons.mpr ⟨az_ml_5_33, List.forall_mem_cons.mpr ⟨az_ml_5_37, List.forall_mem_cons.mpr ⟨az_ml_5_41, List.forall_mem_cons.mpr ⟨az_ml_5_46, List.forall_mem_cons.mpr ⟨az_ml_5_50, List.forall_mem_cons.mpr ⟨az_ml_5_54, List.forall_mem_cons.mpr ⟨az_ml_5_58, List.forall_mem_cons.mpr ⟨az_ml_5_62, List.forall_mem_cons.mpr ⟨az_ml_5_71, List.forall_mem_cons.mpr ⟨az_ml_5_81, List.forall_mem_cons.mpr ⟨az_ml_5_87, List.forall_mem_cons.mpr ⟨az_ml_5_90, List.forall_mem_cons.mpr ⟨az_ml_5_95, List.forall_mem_cons.mpr ⟨az_ml_5_102, List.forall_mem_cons.mpr ⟨az_ml_5_105, List.forall_mem_cons.mpr ⟨az_ml_5_111, List.forall_mem_cons.mpr ⟨az_ml_5_114, List.forall_mem_cons.mpr ⟨az_ml_5_121, List.forall_mem_cons.mpr ⟨az_ml_5_126, fun _ h => absurd h List.not_mem_nil⟩⟩⟩⟩⟩⟩⟩⟩⟩⟩⟩⟩⟩⟩⟩⟩⟩⟩⟩⟩⟩
set_option maxRecDepth 100000 in
theorem az_ml_6_52 : az_mlp 6 52 1 az_m_X4_copyFrom 2 := ⟨_, _, az_mp_X4_copyFrom, Or.inr (Or.inl ⟨rfl, rfl, rfl, ⟨"GoodHalfEmpty", az_inn 293 (by decide +kernel) rfl⟩⟩)⟩
set_option maxRecDepth 100000 in
theorem az_ml_6_56 : az_mlp 6 56 1 az_m_X3_copyFrom 2 := ⟨_, _, az_mp_X3_copyFrom, Or.inr (Or.inl ⟨rfl, rfl, rfl, ⟨"GoodHalfEmpty", az_inn 300 (by decide +kernel) rfl⟩⟩)⟩
set_option maxRecDepth 100000 in
theorem az_ml_6_59 : az_mlp 6 59 1 az_m_X1_copyFrom 2 := ⟨_, _, az_mp_X1_copyFrom, Or.inr (Or.inl ⟨rfl, rfl, rfl, ⟨"GoodHalfEmpty", az_inn 305 (by decide +kernel) rfl⟩⟩)⟩
set_option maxRecDepth 100000 in
theorem az_ml_6_62 : az_mlp 6 62 1 az_m_X1_add 2 := ⟨_, _, az_mp_X1_add, Or.inr (Or.inl ⟨rfl, rfl, rfl, ⟨"GoodHalfEmpty", az_inn 478 (by decide +kernel) rfl⟩⟩)⟩
set_option maxRecDepth 100000 in
theorem az_ml_6_66 : az_mlp 6 66 1 az_m_X3_has 2 := ⟨_, _, az_mp_X3_has, Or.inr (Or.inl ⟨rfl, rfl, rfl, ⟨"GoodHalfEmpty", az_inn 498 (by decide +kernel) rfl⟩⟩)⟩
set_option maxRecDepth 100000 in
theorem az_ml_6_76 : az_mlp 6 76 0 az_m_X6_presentAgo 2 := ⟨_, _, az_mp_X6_presentAgo, Or.inl ⟨rfl, rfl, rfl, az_int 529 (by decide +kernel) rfl⟩⟩
set_option maxRecDepth 100000 in
theorem az_ml_6_80 : az_mlp 6 80 3 az_m_X7_quotient 2 := ⟨_, _, az_mp_X7_quotient, Or.inr (Or.inr (Or.inr ⟨rfl, rfl, rfl, ⟨"GoodHalfEmpty", az_inn 543 (by decide +kernel) rfl⟩⟩))⟩
set_option maxRecDepth 100000 in
theorem az_ml_6_84 : az_mlp 6 84 1 az_m_X4_people 1 := ⟨_, _, az_mp_X4_people, Or.inr (Or.inl ⟨rfl, rfl, rfl, ⟨"GoodHalfEmpty", az_inn 533 (by decide +kernel) rfl⟩⟩)⟩
set_option maxRecDepth 100000 in
theorem az_ml_6_93 : az_mlp 6 93 0 az_m_X6_meanPresent 2 := ⟨_, _, az_mp_X6_meanPresent, Or.inl ⟨rfl, rfl, rfl, az_int 539 (by decide +kernel) rfl⟩⟩
set_option maxRecDepth 100000 in
theorem az_ml_6_96 : az_mlp 6 96 0 az_m_X6_askRules 1 := ⟨_, _, az_mp_X6_askRules, Or.inl ⟨rfl, rfl, rfl, az_int 563 (by decide +kernel) rfl⟩⟩
set_option maxRecDepth 100000 in
theorem az_ml_6_99 : az_mlp 6 99 0 az_m_X6_askSorts 1 := ⟨_, _, az_mp_X6_askSorts, Or.inl ⟨rfl, rfl, rfl, az_int 570 (by decide +kernel) rfl⟩⟩
set_option maxRecDepth 100000 in
theorem az_ml_6_106 : az_mlp 6 106 3 az_m_X7_at 2 := ⟨_, _, az_mp_X7_at, Or.inr (Or.inr (Or.inr ⟨rfl, rfl, rfl, ⟨"GoodHalfEmpty", az_inn 567 (by decide +kernel) rfl⟩⟩))⟩
set_option maxRecDepth 100000 in
theorem az_ml_6_113 : az_mlp 6 113 0 az_m_X6_foretells 3 := ⟨_, _, az_mp_X6_foretells, Or.inl ⟨rfl, rfl, rfl, az_int 568 (by decide +kernel) rfl⟩⟩
set_option maxRecDepth 100000 in
theorem az_ml_6_116 : az_mlp 6 116 3 az_m_X7_put 3 := ⟨_, _, az_mp_X7_put, Or.inr (Or.inr (Or.inr ⟨rfl, rfl, rfl, ⟨"GoodHalfEmpty", az_inn 569 (by decide +kernel) rfl⟩⟩))⟩
set_option maxRecDepth 100000 in
theorem az_ml_6_122 : az_mlp 6 122 0 az_m_X6_wantsToGo 2 := ⟨_, _, az_mp_X6_wantsToGo, Or.inl ⟨rfl, rfl, rfl, az_int 574 (by decide +kernel) rfl⟩⟩
set_option maxRecDepth 100000 in
theorem az_ml_6_125 : az_mlp 6 125 0 az_m_X6_settle 3 := ⟨_, _, az_mp_X6_settle, Or.inl ⟨rfl, rfl, rfl, az_int 586 (by decide +kernel) rfl⟩⟩
set_option maxRecDepth 100000 in
theorem az_ml_6_135 : az_mlp 6 135 1 az_m_X3_mostRight 2 := ⟨_, _, az_mp_X3_mostRight, Or.inr (Or.inl ⟨rfl, rfl, rfl, ⟨"GoodHalfEmpty", az_inn 578 (by decide +kernel) rfl⟩⟩)⟩
set_option maxRecDepth 100000 in
theorem az_ml_6_138 : az_mlp 6 138 3 az_m_X7_remainder 2 := ⟨_, _, az_mp_X7_remainder, Or.inr (Or.inr (Or.inr ⟨rfl, rfl, rfl, ⟨"GoodHalfEmpty", az_inn 583 (by decide +kernel) rfl⟩⟩))⟩
set_option maxRecDepth 100000 in
theorem az_ml_6_141 : az_mlp 6 141 0 az_m_X6_isRight 2 := ⟨_, _, az_mp_X6_isRight, Or.inl ⟨rfl, rfl, rfl, az_int 590 (by decide +kernel) rfl⟩⟩
set_option maxRecDepth 100000 in
theorem az_ml_6_156 : az_mlp 6 156 0 az_m_X6_worthToOne 2 := ⟨_, _, az_mp_X6_worthToOne, Or.inl ⟨rfl, rfl, rfl, az_int 619 (by decide +kernel) rfl⟩⟩
set_option maxRecDepth 100000 in
theorem az_ml_6_ok : ∀ q ∈ az_ml_6, az_mlp 6 q.1 q.2.1 q.2.2.1 q.2.2.2 := List.forall_mem_cons.mpr ⟨az_ml_6_52, List.forall_mem_cons.mpr ⟨az_ml_6_56, List.forall_mem_cons.mpr ⟨az_ml_6_59, List.forall_mem_cons.mpr ⟨az_ml_6_62, List.forall_mem_cons.mpr ⟨az_ml_6_66, List.forall_mem_cons.mpr ⟨az_ml_6_76, List.forall_mem_cons.mpr ⟨az_ml_6_80, List.forall_mem_cons.mpr ⟨az_ml_6_84, List.forall_mem_cons.mpr ⟨az_ml_6_93, List.forall_mem_cons.mpr ⟨az_ml_6_96, List.forall_mem_cons.mpr ⟨az_ml_6_99, List.forall_mem_cons.mpr ⟨az_ml_6_106, List.forall_mem_cons.mpr ⟨az_ml_6_113, List.forall_mem_cons.mpr ⟨az_ml_6_116, List.forall_mem_cons.mpr ⟨az_ml_6_122, List.forall_mem_cons.mpr ⟨az_ml_6_125, List.forall_mem_cons.mpr ⟨az_ml_6_135, List.forall_mem_cons.mpr ⟨az_ml_6_138, List.forall_mem_cons.mpr ⟨az_ml_6_141, List.forall_mem_cons.mpr ⟨az_ml_6_156, fun _ h => absurd h List.not_mem_nil⟩⟩⟩⟩⟩⟩⟩⟩⟩⟩⟩⟩⟩⟩⟩⟩⟩⟩⟩⟩
set_option maxRecDepth 100000 in
theorem az_ml_7_57 : az_mlp 7 57 2 az_m_X7_outside 3 := ⟨_, _, az_mp_X7_outside, Or.inr (Or.inr (Or.inl ⟨rfl, rfl, rfl, az_int 264 (by decide +kernel) rfl⟩))⟩
set_option maxRecDepth 100000 in
theorem az_ml_7_64 : az_mlp 7 64 0 az_m_X7_refuse 2 := ⟨_, _, az_mp_X7_refuse, Or.inl ⟨rfl, rfl, rfl, az_int 267 (by decide +kernel) rfl⟩⟩
set_option maxRecDepth 100000 in
theorem az_ml_7_68 : az_mlp 7 68 1 az_m_X5_add 2 := ⟨_, _, az_mp_X5_add, Or.inr (Or.inl ⟨rfl, rfl, rfl, ⟨"GoodHalfEmpty", az_inn 277 (by decide +kernel) rfl⟩⟩)⟩
set_option maxRecDepth 100000 in
theorem az_ml_7_71 : az_mlp 7 71 1 az_m_X6_copyFrom 2 := ⟨_, _, az_mp_X6_copyFrom, Or.inr (Or.inl ⟨rfl, rfl, rfl, ⟨"GoodHalfEmpty", az_inn 289 (by decide +kernel) rfl⟩⟩)⟩
set_option maxRecDepth 100000 in
theorem az_ml_7_75 : az_mlp 7 75 1 az_m_X5_tellTo 2 := ⟨_, _, az_mp_X5_tellTo, Or.inr (Or.inl ⟨rfl, rfl, rfl, ⟨"GoodHalfEmpty", az_inn 310 (by decide +kernel) rfl⟩⟩)⟩
set_option maxRecDepth 100000 in
theorem az_ml_7_79 : az_mlp 7 79 1 az_m_X5_clear 1 := ⟨_, _, az_mp_X5_clear, Or.inr (Or.inl ⟨rfl, rfl, rfl, ⟨"GoodHalfEmpty", az_inn 507 (by decide +kernel) rfl⟩⟩)⟩
set_option maxRecDepth 100000 in
theorem az_ml_7_86 : az_mlp 7 86 1 az_m_X4_has 2 := ⟨_, _, az_mp_X4_has, Or.inr (Or.inl ⟨rfl, rfl, rfl, ⟨"GoodHalfEmpty", az_inn 516 (by decide +kernel) rfl⟩⟩)⟩
set_option maxRecDepth 100000 in
theorem az_ml_7_95 : az_mlp 7 95 2 az_m_X7_at 2 := ⟨_, _, az_mp_X7_at, Or.inr (Or.inr (Or.inl ⟨rfl, rfl, rfl, az_int 271 (by decide +kernel) rfl⟩))⟩
set_option maxRecDepth 100000 in
theorem az_ml_7_118 : az_mlp 7 118 1 az_m_X3_has 2 := ⟨_, _, az_mp_X3_has, Or.inr (Or.inl ⟨rfl, rfl, rfl, ⟨"GoodHalfEmpty", az_inn 524 (by decide +kernel) rfl⟩⟩)⟩
set_option maxRecDepth 100000 in
theorem az_ml_7_128 : az_mlp 7 128 1 az_m_X6_foretells 3 := ⟨_, _, az_mp_X6_foretells, Or.inr (Or.inl ⟨rfl, rfl, rfl, ⟨"GoodHalfEmpty", az_inn 525 (by decide +kernel) rfl⟩⟩)⟩
set_option maxRecDepth 100000 in
theorem az_ml_7_132 : az_mlp 7 132 1 az_m_X6_presentAgo 2 := ⟨_, _, az_mp_X6_presentAgo, Or.inr (Or.inl ⟨rfl, rfl, rfl, ⟨"GoodHalfEmpty", az_inn 550 (by decide +kernel) rfl⟩⟩)⟩
set_option maxRecDepth 100000 in
theorem az_ml_7_138 : az_mlp 7 138 1 az_m_X6_goBy 1 := ⟨_, _, az_mp_X6_goBy, Or.inr (Or.inl ⟨rfl, rfl, rfl, ⟨"GoodHalfEmpty", az_inn 559 (by decide +kernel) rfl⟩⟩)⟩
set_option maxRecDepth 100000 in
theorem az_ml_7_142 : az_mlp 7 142 1 az_m_X6_decide 1 := ⟨_, _, az_mp_X6_decide, Or.inr (Or.inl ⟨rfl, rfl, rfl, ⟨"GoodHalfEmpty", az_inn 598 (by decide +kernel) rfl⟩⟩)⟩
set_option maxRecDepth 100000 in
theorem az_ml_7_151 : az_mlp 7 151 0 az_m_X7_refuseWorth 2 := ⟨_, _, az_mp_X7_refuseWorth, Or.inl ⟨rfl, rfl, rfl, az_int 610 (by decide +kernel) rfl⟩⟩
set_option maxRecDepth 100000 in
theorem az_ml_7_154 : az_mlp 7 154 1 az_m_X6_worthToAll 1 := ⟨_, _, az_mp_X6_worthToAll, Or.inr (Or.inl ⟨rfl, rfl, rfl, ⟨"GoodHalfEmpty", az_inn 615 (by decide +kernel) rfl⟩⟩)⟩
set_option maxRecDepth 100000 in
theorem az_ml_7_157 : az_mlp 7 157 1 az_m_X6_worthToOne 2 := ⟨_, _, az_mp_X6_worthToOne, Or.inr (Or.inl ⟨rfl, rfl, rfl, ⟨"GoodHalfEmpty", az_inn 623 (by decide +kernel) rfl⟩⟩)⟩
set_option maxRecDepth 100000 in
theorem az_ml_7_160 : az_mlp 7 160 0 az_m_X7_lookAhead 3 := ⟨_, _, az_mp_X7_lookAhead, Or.inl ⟨rfl, rfl, rfl, az_int 628 (by decide +kernel) rfl⟩⟩
set_option maxRecDepth 100000 in
theorem az_ml_7_164 : az_mlp 7 164 2 az_m_X7_quotient 2 := ⟨_, _, az_mp_X7_quotient, Or.inr (Or.inr (Or.inl ⟨rfl, rfl, rfl, az_int 641 (by decide +kernel) rfl⟩))⟩
set_option maxRecDepth 100000 in
theorem az_ml_7_167 : az_mlp 7 167 0 az_m_X7_swingOf 2 := ⟨_, _, az_mp_X7_swingOf, Or.inl ⟨rfl, rfl, rfl, az_int 646 (by decide +kernel) rfl⟩⟩
set_option maxRecDepth 100000 in
theorem az_ml_7_173 : az_mlp 7 173 0 az_m_X7_comesAgainAfter 2 := ⟨_, _, az_mp_X7_comesAgainAfter, Or.inl ⟨rfl, rfl, rfl, az_int 660 (by decide +kernel) rfl⟩⟩
set_option maxRecDepth 100000 in
theorem az_ml_7_176 : az_mlp 7 176 0 az_m_X7_gainsInMind 3 := ⟨_, _, az_mp_X7_gainsInMind, Or.inl ⟨rfl, rfl, rfl, az_int 668 (by decide +kernel) rfl⟩⟩
set_option maxRecDepth 100000 in
theorem az_ml_7_179 : az_mlp 7 179 1 az_m_X2_restingPlans 4 := ⟨_, _, az_mp_X2_restingPlans, Or.inr (Or.inl ⟨rfl, rfl, rfl, ⟨"GoodHalfEmpty", az_inn 676 (by decide +kernel) rfl⟩⟩)⟩
set_option maxRecDepth 100000 in
theorem az_ml_7_183 : az_mlp 7 183 1 az_m_X2_findFirstResting 4 := ⟨_, _, az_mp_X2_findFirstResting, Or.inr (Or.inl ⟨rfl, rfl, rfl, ⟨"GoodHalfEmpty", az_inn 717 (by decide +kernel) rfl⟩⟩)⟩
set_option maxRecDepth 100000 in
theorem az_ml_7_187 : az_mlp 7 187 1 az_m_X2_presentOfFirst 1 := ⟨_, _, az_mp_X2_presentOfFirst, Or.inr (Or.inl ⟨rfl, rfl, rfl, ⟨"GoodHalfEmpty", az_inn 745 (by decide +kernel) rfl⟩⟩)⟩
set_option maxRecDepth 100000 in
theorem az_ml_7_193 : az_mlp 7 193 1 az_m_X2_bestWorth 4 := ⟨_, _, az_mp_X2_bestWorth, Or.inr (Or.inl ⟨rfl, rfl, rfl, ⟨"GoodHalfEmpty", az_inn 753 (by decide +kernel) rfl⟩⟩)⟩
set_option maxRecDepth 100000 in
theorem az_ml_7_196 : az_mlp 7 196 1 az_m_X2_findFirstBest 4 := ⟨_, _, az_mp_X2_findFirstBest, Or.inr (Or.inl ⟨rfl, rfl, rfl, ⟨"GoodHalfEmpty", az_inn 763 (by decide +kernel) rfl⟩⟩)⟩
set_option maxRecDepth 100000 in
theorem az_ml_7_200 : az_mlp 7 200 1 az_m_X2_bestRestingWorth 4 := ⟨_, _, az_mp_X2_bestRestingWorth, Or.inr (Or.inl ⟨rfl, rfl, rfl, ⟨"GoodHalfEmpty", az_inn 772 (by decide +kernel) rfl⟩⟩)⟩
set_option maxRecDepth 100000 in
theorem az_ml_7_205 : az_mlp 7 205 1 az_m_X4_add 7 := ⟨_, _, az_mp_X4_add, Or.inr (Or.inl ⟨rfl, rfl, rfl, ⟨"GoodHalfEmpty", az_inn 789 (by decide +kernel) rfl⟩⟩)⟩
set_option maxRecDepth 100000 in
theorem az_ml_7_208 : az_mlp 7 208 0 az_m_X7_tallyRight 2 := ⟨_, _, az_mp_X7_tallyRight, Or.inl ⟨rfl, rfl, rfl, az_int 794 (by decide +kernel) rfl⟩⟩
set_option maxRecDepth 100000 in
theorem az_ml_7_212 : az_mlp 7 212 1 az_m_X6_drawMemory 2 := ⟨_, _, az_mp_X6_drawMemory, Or.inr (Or.inl ⟨rfl, rfl, rfl, ⟨"GoodHalfEmpty", az_inn 807 (by decide +kernel) rfl⟩⟩)⟩
set_option maxRecDepth 100000 in
theorem az_ml_7_215 : az_mlp 7 215 2 az_m_X7_put 3 := ⟨_, _, az_mp_X7_put, Or.inr (Or.inr (Or.inl ⟨rfl, rfl, rfl, az_int 274 (by decide +kernel) rfl⟩))⟩
set_option maxRecDepth 100000 in
theorem az_ml_7_223 : az_mlp 7 223 1 az_m_X4_people 1 := ⟨_, _, az_mp_X4_people, Or.inr (Or.inl ⟨rfl, rfl, rfl, ⟨"GoodHalfEmpty", az_inn 834 (by decide +kernel) rfl⟩⟩)⟩
set_option maxRecDepth 100000 in
theorem az_ml_7_234 : az_mlp 7 234 1 az_m_X3_lengthen 2 := ⟨_, _, az_mp_X3_lengthen, Or.inr (Or.inl ⟨rfl, rfl, rfl, ⟨"GoodHalfEmpty", az_inn 632 (by decide +kernel) rfl⟩⟩)⟩
set_option maxRecDepth 100000 in
theorem az_ml_7_245 : az_mlp 7 245 1 az_m_X6_isRight 2 := ⟨_, _, az_mp_X6_isRight, Or.inr (Or.inl ⟨rfl, rfl, rfl, ⟨"GoodHalfEmpty", az_inn 798 (by decide +kernel) rfl⟩⟩)⟩
set_option maxRecDepth 100000 in
theorem az_ml_7_ok : ∀ q ∈ az_ml_7, az_mlp 7 q.1 q.2.1 q.2.2.1 q.2.2.2 := List.forall_mem_cons.mpr ⟨az_ml_7_57, List.forall_mem_cons.mpr ⟨az_ml_7_64, List.forall_mem_cons.mpr ⟨az_ml_7_68, List.forall_mem_cons.mpr ⟨az_ml_7_71, List.forall_mem_cons.mpr ⟨az_ml_7_75, List.forall_mem_cons.mpr ⟨az_ml_7_79, List.forall_mem_cons.mpr ⟨az_ml_7_86, List.forall_mem_cons.mpr ⟨az_ml_7_95, List.forall_mem_cons.mpr ⟨az_ml_7_118, List.forall_mem_cons.mpr ⟨az_ml_7_128, List.forall_mem_cons.mpr ⟨az_ml_7_132, List.forall_mem_cons.mpr ⟨az_ml_7_138, List.forall_mem_cons.mpr ⟨az_ml_7_142, List.forall_mem_cons.mpr ⟨az_ml_7_151, List.forall_mem_cons.mpr ⟨az_ml_7_154, List.forall_mem_cons.mpr ⟨az_ml_7_157, List.forall_mem_cons.mpr ⟨az_ml_7_160, List.forall_mem_cons.mpr ⟨az_ml_7_164, List.forall_mem_cons.mpr ⟨az_ml_7_167, List.forall_mem_cons.mpr ⟨az_ml_7_173, List.forall_mem_cons.mpr ⟨az_ml_7_176, List.forall_mem_cons.mpr ⟨az_ml_7_179, List.forall_mem_cons.mpr ⟨az_ml_7_183, List.forall_mem_cons.mpr ⟨az_ml_7_187, List.forall_mem_cons.mpr ⟨az_ml_7_193, List.forall_mem_cons.mpr ⟨az_ml_7_196, List.forall_mem_cons.mpr ⟨az_ml_7_200, List.forall_mem_cons.mpr ⟨az_ml_7_205, List.forall_mem_cons.mpr ⟨az_ml_7_208, List.forall_mem_cons.mpr ⟨az_ml_7_212, List.forall_mem_cons.mpr ⟨az_ml_7_215, List.forall_mem_cons.mpr ⟨az_ml_7_223, List.forall_mem_cons.mpr ⟨az_ml_7_234, List.forall_mem_cons.mpr ⟨az_ml_7_245, fun _ h => absurd h List.not_mem_nil⟩⟩⟩⟩⟩⟩⟩⟩⟩⟩⟩⟩⟩⟩⟩⟩⟩⟩⟩⟩⟩⟩⟩⟩⟩⟩⟩⟩⟩⟩⟩⟩⟩⟩
set_option maxRecDepth 100000 in
theorem az_ml_8_17 : az_mlp 8 17 2 az_m_X8_move 2 := ⟨_, _, az_mp_X8_move, Or.inr (Or.inr (Or.inl ⟨rfl, rfl, rfl, az_int 839 (by decide +kernel) rfl⟩))⟩
set_option maxRecDepth 100000 in
theorem az_ml_8_21 : az_mlp 8 21 0 az_m_X8_no 2 := ⟨_, _, az_mp_X8_no, Or.inl ⟨rfl, rfl, rfl, az_int 846 (by decide +kernel) rfl⟩⟩
set_option maxRecDepth 100000 in
theorem az_ml_8_69 : az_mlp 8 69 0 az_m_X8_of 3 := ⟨_, _, az_mp_X8_of, Or.inl ⟨rfl, rfl, rfl, az_int 988 (by decide +kernel) rfl⟩⟩
set_option maxRecDepth 100000 in
theorem az_ml_8_83 : az_mlp 8 83 0 az_m_X8_oneOf 2 := ⟨_, _, az_mp_X8_oneOf, Or.inl ⟨rfl, rfl, rfl, az_int 956 (by decide +kernel) rfl⟩⟩
set_option maxRecDepth 100000 in
theorem az_ml_8_90 : az_mlp 8 90 0 az_m_X8_figures 2 := ⟨_, _, az_mp_X8_figures, Or.inl ⟨rfl, rfl, rfl, az_int 960 (by decide +kernel) rfl⟩⟩
set_option maxRecDepth 100000 in
theorem az_ml_8_93 : az_mlp 8 93 0 az_m_X8_expect 2 := ⟨_, _, az_mp_X8_expect, Or.inl ⟨rfl, rfl, rfl, az_int 964 (by decide +kernel) rfl⟩⟩
set_option maxRecDepth 100000 in
theorem az_ml_8_97 : az_mlp 8 97 0 az_m_X8_remember 2 := ⟨_, _, az_mp_X8_remember, Or.inl ⟨rfl, rfl, rfl, az_int 976 (by decide +kernel) rfl⟩⟩
set_option maxRecDepth 100000 in
theorem az_ml_8_101 : az_mlp 8 101 0 az_m_X8_statement 1 := ⟨_, _, az_mp_X8_statement, Or.inl ⟨rfl, rfl, rfl, az_int 952 (by decide +kernel) rfl⟩⟩
set_option maxRecDepth 100000 in
theorem az_ml_8_104 : az_mlp 8 104 0 az_m_X8_isAsItMustBe 3 := ⟨_, _, az_mp_X8_isAsItMustBe, Or.inl ⟨rfl, rfl, rfl, az_int 968 (by decide +kernel) rfl⟩⟩
set_option maxRecDepth 100000 in
theorem az_ml_8_108 : az_mlp 8 108 0 az_m_X8_come 1 := ⟨_, _, az_mp_X8_come, Or.inl ⟨rfl, rfl, rfl, az_int 972 (by decide +kernel) rfl⟩⟩
set_option maxRecDepth 100000 in
theorem az_ml_8_111 : az_mlp 8 111 0 az_m_X8_read 1 := ⟨_, _, az_mp_X8_read, Or.inl ⟨rfl, rfl, rfl, az_int 948 (by decide +kernel) rfl⟩⟩
set_option maxRecDepth 100000 in
theorem az_ml_8_115 : az_mlp 8 115 0 az_m_X8_ago 2 := ⟨_, _, az_mp_X8_ago, Or.inl ⟨rfl, rfl, rfl, az_int 1000 (by decide +kernel) rfl⟩⟩
set_option maxRecDepth 100000 in
theorem az_ml_8_118 : az_mlp 8 118 0 az_m_X8_people 1 := ⟨_, _, az_mp_X8_people, Or.inl ⟨rfl, rfl, rfl, az_int 1004 (by decide +kernel) rfl⟩⟩
set_option maxRecDepth 100000 in
theorem az_ml_8_126 : az_mlp 8 126 0 az_m_X8_foretold 3 := ⟨_, _, az_mp_X8_foretold, Or.inl ⟨rfl, rfl, rfl, az_int 996 (by decide +kernel) rfl⟩⟩
set_option maxRecDepth 100000 in
theorem az_ml_8_129 : az_mlp 8 129 0 az_m_X8_isRoom 2 := ⟨_, _, az_mp_X8_isRoom, Or.inl ⟨rfl, rfl, rfl, az_int 1029 (by decide +kernel) rfl⟩⟩
set_option maxRecDepth 100000 in
theorem az_ml_8_133 : az_mlp 8 133 0 az_m_X8_hat 2 := ⟨_, _, az_mp_X8_hat, Or.inl ⟨rfl, rfl, rfl, az_int 1033 (by decide +kernel) rfl⟩⟩
set_option maxRecDepth 100000 in
theorem az_ml_8_136 : az_mlp 8 136 0 az_m_X8_worthGone 3 := ⟨_, _, az_mp_X8_worthGone, Or.inl ⟨rfl, rfl, rfl, az_int 1054 (by decide +kernel) rfl⟩⟩
set_option maxRecDepth 100000 in
theorem az_ml_8_139 : az_mlp 8 139 0 az_m_X8_present 1 := ⟨_, _, az_mp_X8_present, Or.inl ⟨rfl, rfl, rfl, az_int 1025 (by decide +kernel) rfl⟩⟩
set_option maxRecDepth 100000 in
theorem az_ml_8_142 : az_mlp 8 142 0 az_m_X8_isNoSort 2 := ⟨_, _, az_mp_X8_isNoSort, Or.inl ⟨rfl, rfl, rfl, az_int 984 (by decide +kernel) rfl⟩⟩
set_option maxRecDepth 100000 in
theorem az_ml_8_145 : az_mlp 8 145 0 az_m_X8_goOn 1 := ⟨_, _, az_mp_X8_goOn, Or.inl ⟨rfl, rfl, rfl, az_int 1021 (by decide +kernel) rfl⟩⟩
set_option maxRecDepth 100000 in
theorem az_ml_8_149 : az_mlp 8 149 0 az_m_X8_worthNext 3 := ⟨_, _, az_mp_X8_worthNext, Or.inl ⟨rfl, rfl, rfl, az_int 1050 (by decide +kernel) rfl⟩⟩
set_option maxRecDepth 100000 in
theorem az_ml_8_155 : az_mlp 8 155 0 az_m_X8_isWrong 3 := ⟨_, _, az_mp_X8_isWrong, Or.inl ⟨rfl, rfl, rfl, az_int 1062 (by decide +kernel) rfl⟩⟩
set_option maxRecDepth 100000 in
theorem az_ml_8_158 : az_mlp 8 158 0 az_m_X8_goAhead 3 := ⟨_, _, az_mp_X8_goAhead, Or.inl ⟨rfl, rfl, rfl, az_int 1066 (by decide +kernel) rfl⟩⟩
set_option maxRecDepth 100000 in
theorem az_ml_8_161 : az_mlp 8 161 0 az_m_X8_swungIn 2 := ⟨_, _, az_mp_X8_swungIn, Or.inl ⟨rfl, rfl, rfl, az_int 1078 (by decide +kernel) rfl⟩⟩
set_option maxRecDepth 100000 in
theorem az_ml_8_170 : az_mlp 8 170 0 az_m_X8_begin 1 := ⟨_, _, az_mp_X8_begin, Or.inl ⟨rfl, rfl, rfl, az_int 1103 (by decide +kernel) rfl⟩⟩
set_option maxRecDepth 100000 in
theorem az_ml_8_179 : az_mlp 8 179 0 az_m_X8_isAtRest 2 := ⟨_, _, az_mp_X8_isAtRest, Or.inl ⟨rfl, rfl, rfl, az_int 1107 (by decide +kernel) rfl⟩⟩
set_option maxRecDepth 100000 in
theorem az_ml_8_188 : az_mlp 8 188 0 az_m_X8_isNextPlan 1 := ⟨_, _, az_mp_X8_isNextPlan, Or.inl ⟨rfl, rfl, rfl, az_int 1111 (by decide +kernel) rfl⟩⟩
set_option maxRecDepth 100000 in
theorem az_ml_8_192 : az_mlp 8 192 0 az_m_X8_goThrough 1 := ⟨_, _, az_mp_X8_goThrough, Or.inl ⟨rfl, rfl, rfl, az_int 1099 (by decide +kernel) rfl⟩⟩
set_option maxRecDepth 100000 in
theorem az_ml_8_ok : ∀ q ∈ az_ml_8, az_mlp 8 q.1 q.2.1 q.2.2.1 q.2.2.2 := List.forall_mem_cons.mpr ⟨az_ml_8_17, List.forall_mem_cons.mpr ⟨az_ml_8_21, List.forall_mem_cons.mpr ⟨az_ml_8_69, List.forall_mem_cons.mpr ⟨az_ml_8_83, List.forall_mem_cons.mpr ⟨az_ml_8_90, List.forall_mem_cons.mpr ⟨az_ml_8_93, List.forall_mem_cons.mpr ⟨az_ml_8_97, List.forall_mem_cons.mpr ⟨az_ml_8_101, List.forall_mem_cons.mpr ⟨az_ml_8_104, List.forall_mem_cons.mpr ⟨az_ml_8_108, List.forall_mem_cons.mpr ⟨az_ml_8_111, List.forall_mem_cons.mpr ⟨az_ml_8_115, List.forall_mem_cons.mpr ⟨az_ml_8_118, List.forall_mem_cons.mpr ⟨az_ml_8_126, List.forall_mem_cons.mpr ⟨az_ml_8_129, List.forall_mem_cons.mpr ⟨az_ml_8_133, List.forall_mem_cons.mpr ⟨az_ml_8_136, List.forall_mem_cons.mpr ⟨az_ml_8_139, List.forall_mem_cons.mpr ⟨az_ml_8_142, List.forall_mem_cons.mpr ⟨az_ml_8_145, List.forall_mem_cons.mpr ⟨az_ml_8_149, List.forall_mem_cons.mpr ⟨az_ml_8_155, List.forall_mem_cons.mpr ⟨az_ml_8_158, List.forall_mem_cons.mpr ⟨az_ml_8_161, List.forall_mem_cons.mpr ⟨az_ml_8_170, List.forall_mem_cons.mpr ⟨az_ml_8_179, List.forall_mem_cons.mpr ⟨az_ml_8_188, List.forall_mem_cons.mpr ⟨az_ml_8_192, fun _ h => absurd h List.not_mem_nil⟩⟩⟩⟩⟩⟩⟩⟩⟩⟩⟩⟩⟩⟩⟩⟩⟩⟩⟩⟩⟩⟩⟩⟩⟩⟩⟩⟩
set_option maxRecDepth 100000 in
theorem az_ml_9_335 : az_mlp 9 335 0 az_m_J0_coder_7d493 1 := ⟨_, _, az_mp_J0_coder_7d493, Or.inl ⟨rfl, rfl, rfl, az_int 347 (by decide +kernel) rfl⟩⟩
set_option maxRecDepth 100000 in
theorem az_ml_9_492 : az_mlp 9 492 0 az_m_J0_isLatin1_aae02 1 := ⟨_, _, az_mp_J0_isLatin1_aae02, Or.inl ⟨rfl, rfl, rfl, az_int 357 (by decide +kernel) rfl⟩⟩
set_option maxRecDepth 100000 in
theorem az_ml_9_495 : az_mlp 9 495 2 az_m_J1_charAt_3b067 2 := ⟨_, _, az_mp_J1_charAt_3b067, Or.inr (Or.inr (Or.inl ⟨rfl, rfl, rfl, az_int 361 (by decide +kernel) rfl⟩))⟩
set_option maxRecDepth 100000 in
theorem az_ml_9_505 : az_mlp 9 505 0 az_m_J0_length_8abf5 1 := ⟨_, _, az_mp_J0_length_8abf5, Or.inl ⟨rfl, rfl, rfl, az_int 408 (by decide +kernel) rfl⟩⟩
set_option maxRecDepth 100000 in
theorem az_ml_9_633 : az_mlp 9 633 0 az_m_J0_indexOf_7cf53 3 := ⟨_, _, az_mp_J0_indexOf_7cf53, Or.inl ⟨rfl, rfl, rfl, az_int 404 (by decide +kernel) rfl⟩⟩
set_option maxRecDepth 100000 in
theorem az_ml_9_637 : az_mlp 9 637 2 az_m_J1_indexOf_4cfef 4 := ⟨_, _, az_mp_J1_indexOf_4cfef, Or.inr (Or.inr (Or.inl ⟨rfl, rfl, rfl, az_int 409 (by decide +kernel) rfl⟩))⟩
set_option maxRecDepth 100000 in
theorem az_ml_9_1059 : az_mlp 9 1059 2 az_m_J3_checkIndex_8e157 3 := ⟨_, _, az_mp_J3_checkIndex_8e157, Or.inr (Or.inr (Or.inl ⟨rfl, rfl, rfl, az_int 369 (by decide +kernel) rfl⟩))⟩
set_option maxRecDepth 100000 in
theorem az_ml_9_ok : ∀ q ∈ az_ml_9, az_mlp 9 q.1 q.2.1 q.2.2.1 q.2.2.2 := List.forall_mem_cons.mpr ⟨az_ml_9_335, List.forall_mem_cons.mpr ⟨az_ml_9_492, List.forall_mem_cons.mpr ⟨az_ml_9_495, List.forall_mem_cons.mpr ⟨az_ml_9_505, List.forall_mem_cons.mpr ⟨az_ml_9_633, List.forall_mem_cons.mpr ⟨az_ml_9_637, List.forall_mem_cons.mpr ⟨az_ml_9_1059, fun _ h => absurd h List.not_mem_nil⟩⟩⟩⟩⟩⟩⟩
set_option maxRecDepth 100000 in
theorem az_ml_10_9 : az_mlp 10 9 2 az_m_J0_checkIndex_df160 2 := ⟨_, _, az_mp_J0_checkIndex_df160, Or.inr (Or.inr (Or.inl ⟨rfl, rfl, rfl, az_int 364 (by decide +kernel) rfl⟩))⟩
set_option maxRecDepth 100000 in
theorem az_ml_10_88 : az_mlp 10 88 2 az_m_J1_canEncode_9a6ad 1 := ⟨_, _, az_mp_J1_canEncode_9a6ad, Or.inr (Or.inr (Or.inl ⟨rfl, rfl, rfl, az_int 412 (by decide +kernel) rfl⟩))⟩
set_option maxRecDepth 100000 in
theorem az_ml_10_95 : az_mlp 10 95 2 az_m_J1_indexOfChar_4cfef 4 := ⟨_, _, az_mp_J1_indexOfChar_4cfef, Or.inr (Or.inr (Or.inl ⟨rfl, rfl, rfl, az_int 419 (by decide +kernel) rfl⟩))⟩
set_option maxRecDepth 100000 in
theorem az_ml_10_ok : ∀ q ∈ az_ml_10, az_mlp 10 q.1 q.2.1 q.2.2.1 q.2.2.2 := List.forall_mem_cons.mpr ⟨az_ml_10_9, List.forall_mem_cons.mpr ⟨az_ml_10_88, List.forall_mem_cons.mpr ⟨az_ml_10_95, fun _ h => absurd h List.not_mem_nil⟩⟩⟩
set_option maxRecDepth 100000 in
theorem az_ml_11_414 : az_mlp 11 414 2 az_m_J0_checkIndex_df160 2 := ⟨_, _, az_mp_J0_checkIndex_df160, Or.inr (Or.inr (Or.inl ⟨rfl, rfl, rfl, az_int 381 (by decide +kernel) rfl⟩))⟩
set_option maxRecDepth 100000 in
theorem az_ml_11_ok : ∀ q ∈ az_ml_11, az_mlp 11 q.1 q.2.1 q.2.2.1 q.2.2.2 := List.forall_mem_cons.mpr ⟨az_ml_11_414, fun _ h => absurd h List.not_mem_nil⟩
set_option maxRecDepth 100000 in
theorem az_ml_15_13 : az_mlp 15 13 0 az_m_X7_letter 2 := ⟨_, _, az_mp_X7_letter, Or.inl ⟨rfl, rfl, rfl, az_int 260 (by decide +kernel) rfl⟩⟩
set_option maxRecDepth 100000 in
theorem az_ml_15_17 : az_mlp 15 17 0 az_m_X8_letter 2 := ⟨_, _, az_mp_X8_letter, Or.inl ⟨rfl, rfl, rfl, az_int 940 (by decide +kernel) rfl⟩⟩
set_option maxRecDepth 100000 in
theorem az_ml_15_18 : az_mlp 15 18 0 az_m_X7_town 1 := ⟨_, _, az_mp_X7_town, Or.inl ⟨rfl, rfl, rfl, az_int 285 (by decide +kernel) rfl⟩⟩
set_option maxRecDepth 100000 in
theorem az_ml_15_22 : az_mlp 15 22 0 az_m_X8_town 1 := ⟨_, _, az_mp_X8_town, Or.inl ⟨rfl, rfl, rfl, az_int 944 (by decide +kernel) rfl⟩⟩
set_option maxRecDepth 100000 in
theorem az_ml_15_23 : az_mlp 15 23 0 az_m_X7_sort 3 := ⟨_, _, az_mp_X7_sort, Or.inl ⟨rfl, rfl, rfl, az_int 512 (by decide +kernel) rfl⟩⟩
set_option maxRecDepth 100000 in
theorem az_ml_15_27 : az_mlp 15 27 0 az_m_X8_sort 3 := ⟨_, _, az_mp_X8_sort, Or.inl ⟨rfl, rfl, rfl, az_int 980 (by decide +kernel) rfl⟩⟩
set_option maxRecDepth 100000 in
theorem az_ml_15_28 : az_mlp 15 28 0 az_m_X7_rule 3 := ⟨_, _, az_mp_X7_rule, Or.inl ⟨rfl, rfl, rfl, az_int 520 (by decide +kernel) rfl⟩⟩
set_option maxRecDepth 100000 in
theorem az_ml_15_31 : az_mlp 15 31 0 az_m_X8_rule 3 := ⟨_, _, az_mp_X8_rule, Or.inl ⟨rfl, rfl, rfl, az_int 992 (by decide +kernel) rfl⟩⟩
set_option maxRecDepth 100000 in
theorem az_ml_15_32 : az_mlp 15 32 0 az_m_X7_remembered 2 := ⟨_, _, az_mp_X7_remembered, Or.inl ⟨rfl, rfl, rfl, az_int 546 (by decide +kernel) rfl⟩⟩
set_option maxRecDepth 100000 in
theorem az_ml_15_35 : az_mlp 15 35 0 az_m_X8_remembered 2 := ⟨_, _, az_mp_X8_remembered, Or.inl ⟨rfl, rfl, rfl, az_int 1009 (by decide +kernel) rfl⟩⟩
set_option maxRecDepth 100000 in
theorem az_ml_15_36 : az_mlp 15 36 0 az_m_X7_penny 2 := ⟨_, _, az_mp_X7_penny, Or.inl ⟨rfl, rfl, rfl, az_int 551 (by decide +kernel) rfl⟩⟩
set_option maxRecDepth 100000 in
theorem az_ml_15_39 : az_mlp 15 39 0 az_m_X8_penny 2 := ⟨_, _, az_mp_X8_penny, Or.inl ⟨rfl, rfl, rfl, az_int 1013 (by decide +kernel) rfl⟩⟩
set_option maxRecDepth 100000 in
theorem az_ml_15_40 : az_mlp 15 40 0 az_m_X7_week 1 := ⟨_, _, az_mp_X7_week, Or.inl ⟨rfl, rfl, rfl, az_int 555 (by decide +kernel) rfl⟩⟩
set_option maxRecDepth 100000 in
theorem az_ml_15_43 : az_mlp 15 43 0 az_m_X8_week 1 := ⟨_, _, az_mp_X8_week, Or.inl ⟨rfl, rfl, rfl, az_int 1017 (by decide +kernel) rfl⟩⟩
set_option maxRecDepth 100000 in
theorem az_ml_15_44 : az_mlp 15 44 0 az_m_X7_next 1 := ⟨_, _, az_mp_X7_next, Or.inl ⟨rfl, rfl, rfl, az_int 594 (by decide +kernel) rfl⟩⟩
set_option maxRecDepth 100000 in
theorem az_ml_15_47 : az_mlp 15 47 0 az_m_X8_next 1 := ⟨_, _, az_mp_X8_next, Or.inl ⟨rfl, rfl, rfl, az_int 1037 (by decide +kernel) rfl⟩⟩
set_option maxRecDepth 100000 in
theorem az_ml_15_48 : az_mlp 15 48 0 az_m_X7_goes 2 := ⟨_, _, az_mp_X7_goes, Or.inl ⟨rfl, rfl, rfl, az_int 602 (by decide +kernel) rfl⟩⟩
set_option maxRecDepth 100000 in
theorem az_ml_15_51 : az_mlp 15 51 0 az_m_X8_goes 2 := ⟨_, _, az_mp_X8_goes, Or.inl ⟨rfl, rfl, rfl, az_int 1041 (by decide +kernel) rfl⟩⟩
set_option maxRecDepth 100000 in
theorem az_ml_15_52 : az_mlp 15 52 0 az_m_X7_worth 2 := ⟨_, _, az_mp_X7_worth, Or.inl ⟨rfl, rfl, rfl, az_int 606 (by decide +kernel) rfl⟩⟩
set_option maxRecDepth 100000 in
theorem az_ml_15_55 : az_mlp 15 55 0 az_m_X8_worth 2 := ⟨_, _, az_mp_X8_worth, Or.inl ⟨rfl, rfl, rfl, az_int 1045 (by decide +kernel) rfl⟩⟩
set_option maxRecDepth 100000 in
theorem az_ml_15_56 : az_mlp 15 56 0 az_m_X7_after 2 := ⟨_, _, az_mp_X7_after, Or.inl ⟨rfl, rfl, rfl, az_int 624 (by decide +kernel) rfl⟩⟩
set_option maxRecDepth 100000 in
theorem az_ml_15_59 : az_mlp 15 59 0 az_m_X8_after 2 := ⟨_, _, az_mp_X8_after, Or.inl ⟨rfl, rfl, rfl, az_int 1058 (by decide +kernel) rfl⟩⟩
set_option maxRecDepth 100000 in
theorem az_ml_15_60 : az_mlp 15 60 0 az_m_X7_mean 2 := ⟨_, _, az_mp_X7_mean, Or.inl ⟨rfl, rfl, rfl, az_int 637 (by decide +kernel) rfl⟩⟩
set_option maxRecDepth 100000 in
theorem az_ml_15_63 : az_mlp 15 63 0 az_m_X8_mean 2 := ⟨_, _, az_mp_X8_mean, Or.inl ⟨rfl, rfl, rfl, az_int 1070 (by decide +kernel) rfl⟩⟩
set_option maxRecDepth 100000 in
theorem az_ml_15_64 : az_mlp 15 64 0 az_m_X7_swing 2 := ⟨_, _, az_mp_X7_swing, Or.inl ⟨rfl, rfl, rfl, az_int 642 (by decide +kernel) rfl⟩⟩
set_option maxRecDepth 100000 in
theorem az_ml_15_67 : az_mlp 15 67 0 az_m_X8_swing 2 := ⟨_, _, az_mp_X8_swing, Or.inl ⟨rfl, rfl, rfl, az_int 1074 (by decide +kernel) rfl⟩⟩
set_option maxRecDepth 100000 in
theorem az_ml_15_68 : az_mlp 15 68 0 az_m_X7_good 2 := ⟨_, _, az_mp_X7_good, Or.inl ⟨rfl, rfl, rfl, az_int 652 (by decide +kernel) rfl⟩⟩
set_option maxRecDepth 100000 in
theorem az_ml_15_71 : az_mlp 15 71 0 az_m_X8_good 2 := ⟨_, _, az_mp_X8_good, Or.inl ⟨rfl, rfl, rfl, az_int 1083 (by decide +kernel) rfl⟩⟩
set_option maxRecDepth 100000 in
theorem az_ml_15_72 : az_mlp 15 72 0 az_m_X7_again 1 := ⟨_, _, az_mp_X7_again, Or.inl ⟨rfl, rfl, rfl, az_int 656 (by decide +kernel) rfl⟩⟩
set_option maxRecDepth 100000 in
theorem az_ml_15_75 : az_mlp 15 75 0 az_m_X8_again 1 := ⟨_, _, az_mp_X8_again, Or.inl ⟨rfl, rfl, rfl, az_int 1087 (by decide +kernel) rfl⟩⟩
set_option maxRecDepth 100000 in
theorem az_ml_15_76 : az_mlp 15 76 0 az_m_X7_gains 3 := ⟨_, _, az_mp_X7_gains, Or.inl ⟨rfl, rfl, rfl, az_int 664 (by decide +kernel) rfl⟩⟩
set_option maxRecDepth 100000 in
theorem az_ml_15_79 : az_mlp 15 79 0 az_m_X8_gains 3 := ⟨_, _, az_mp_X8_gains, Or.inl ⟨rfl, rfl, rfl, az_int 1091 (by decide +kernel) rfl⟩⟩
set_option maxRecDepth 100000 in
theorem az_ml_15_80 : az_mlp 15 80 0 az_m_X7_rests 1 := ⟨_, _, az_mp_X7_rests, Or.inl ⟨rfl, rfl, rfl, az_int 672 (by decide +kernel) rfl⟩⟩
set_option maxRecDepth 100000 in
theorem az_ml_15_83 : az_mlp 15 83 0 az_m_X8_rests 1 := ⟨_, _, az_mp_X8_rests, Or.inl ⟨rfl, rfl, rfl, az_int 1095 (by decide +kernel) rfl⟩⟩
set_option maxRecDepth 100000 in
theorem az_ml_15_84 : az_mlp 15 84 0 az_m_X7_rest 2 := ⟨_, _, az_mp_X7_rest, Or.inl ⟨rfl, rfl, rfl, az_int 713 (by decide +kernel) rfl⟩⟩
set_option maxRecDepth 100000 in
theorem az_ml_15_87 : az_mlp 15 87 0 az_m_X8_rest 2 := ⟨_, _, az_mp_X8_rest, Or.inl ⟨rfl, rfl, rfl, az_int 1115 (by decide +kernel) rfl⟩⟩
set_option maxRecDepth 100000 in
theorem az_ml_15_88 : az_mlp 15 88 0 az_m_X7_best 2 := ⟨_, _, az_mp_X7_best, Or.inl ⟨rfl, rfl, rfl, az_int 749 (by decide +kernel) rfl⟩⟩
set_option maxRecDepth 100000 in
theorem az_ml_15_91 : az_mlp 15 91 0 az_m_X8_best 2 := ⟨_, _, az_mp_X8_best, Or.inl ⟨rfl, rfl, rfl, az_int 1119 (by decide +kernel) rfl⟩⟩
set_option maxRecDepth 100000 in
theorem az_ml_15_92 : az_mlp 15 92 0 az_m_X7_off 1 := ⟨_, _, az_mp_X7_off, Or.inl ⟨rfl, rfl, rfl, az_int 768 (by decide +kernel) rfl⟩⟩
set_option maxRecDepth 100000 in
theorem az_ml_15_95 : az_mlp 15 95 0 az_m_X8_off 1 := ⟨_, _, az_mp_X8_off, Or.inl ⟨rfl, rfl, rfl, az_int 1123 (by decide +kernel) rfl⟩⟩
set_option maxRecDepth 100000 in
theorem az_ml_15_96 : az_mlp 15 96 0 az_m_X7_pennies 1 := ⟨_, _, az_mp_X7_pennies, Or.inl ⟨rfl, rfl, rfl, az_int 777 (by decide +kernel) rfl⟩⟩
set_option maxRecDepth 100000 in
theorem az_ml_15_99 : az_mlp 15 99 0 az_m_X8_pennies 1 := ⟨_, _, az_mp_X8_pennies, Or.inl ⟨rfl, rfl, rfl, az_int 1127 (by decide +kernel) rfl⟩⟩
set_option maxRecDepth 100000 in
theorem az_ml_15_100 : az_mlp 15 100 0 az_m_X7_chairs 1 := ⟨_, _, az_mp_X7_chairs, Or.inl ⟨rfl, rfl, rfl, az_int 781 (by decide +kernel) rfl⟩⟩
set_option maxRecDepth 100000 in
theorem az_ml_15_103 : az_mlp 15 103 0 az_m_X8_chairs 1 := ⟨_, _, az_mp_X8_chairs, Or.inl ⟨rfl, rfl, rfl, az_int 1131 (by decide +kernel) rfl⟩⟩
set_option maxRecDepth 100000 in
theorem az_ml_15_104 : az_mlp 15 104 0 az_m_X7_sees 5 := ⟨_, _, az_mp_X7_sees, Or.inl ⟨rfl, rfl, rfl, az_int 785 (by decide +kernel) rfl⟩⟩
set_option maxRecDepth 100000 in
theorem az_ml_15_108 : az_mlp 15 108 0 az_m_X8_sees 5 := ⟨_, _, az_mp_X8_sees, Or.inl ⟨rfl, rfl, rfl, az_int 1135 (by decide +kernel) rfl⟩⟩
set_option maxRecDepth 100000 in
theorem az_ml_15_109 : az_mlp 15 109 0 az_m_X7_which 2 := ⟨_, _, az_mp_X7_which, Or.inl ⟨rfl, rfl, rfl, az_int 790 (by decide +kernel) rfl⟩⟩
set_option maxRecDepth 100000 in
theorem az_ml_15_112 : az_mlp 15 112 0 az_m_X8_which 2 := ⟨_, _, az_mp_X8_which, Or.inl ⟨rfl, rfl, rfl, az_int 1139 (by decide +kernel) rfl⟩⟩
set_option maxRecDepth 100000 in
theorem az_ml_15_113 : az_mlp 15 113 0 az_m_X7_longer 2 := ⟨_, _, az_mp_X7_longer, Or.inl ⟨rfl, rfl, rfl, az_int 799 (by decide +kernel) rfl⟩⟩
set_option maxRecDepth 100000 in
theorem az_ml_15_116 : az_mlp 15 116 0 az_m_X8_longer 2 := ⟨_, _, az_mp_X8_longer, Or.inl ⟨rfl, rfl, rfl, az_int 1143 (by decide +kernel) rfl⟩⟩
set_option maxRecDepth 100000 in
theorem az_ml_15_117 : az_mlp 15 117 0 az_m_X7_seeds 3 := ⟨_, _, az_mp_X7_seeds, Or.inl ⟨rfl, rfl, rfl, az_int 803 (by decide +kernel) rfl⟩⟩
set_option maxRecDepth 100000 in
theorem az_ml_15_120 : az_mlp 15 120 0 az_m_X8_seeds 3 := ⟨_, _, az_mp_X8_seeds, Or.inl ⟨rfl, rfl, rfl, az_int 1147 (by decide +kernel) rfl⟩⟩
set_option maxRecDepth 100000 in
theorem az_ml_15_121 : az_mlp 15 121 0 az_m_X7_row 2 := ⟨_, _, az_mp_X7_row, Or.inl ⟨rfl, rfl, rfl, az_int 814 (by decide +kernel) rfl⟩⟩
set_option maxRecDepth 100000 in
theorem az_ml_15_124 : az_mlp 15 124 0 az_m_X8_row 2 := ⟨_, _, az_mp_X8_row, Or.inl ⟨rfl, rfl, rfl, az_int 1154 (by decide +kernel) rfl⟩⟩
set_option maxRecDepth 100000 in
theorem az_ml_15_125 : az_mlp 15 125 0 az_m_X7_judge 1 := ⟨_, _, az_mp_X7_judge, Or.inl ⟨rfl, rfl, rfl, az_int 818 (by decide +kernel) rfl⟩⟩
set_option maxRecDepth 100000 in
theorem az_ml_15_128 : az_mlp 15 128 0 az_m_X8_judge 1 := ⟨_, _, az_mp_X8_judge, Or.inl ⟨rfl, rfl, rfl, az_int 1158 (by decide +kernel) rfl⟩⟩
set_option maxRecDepth 100000 in
theorem az_ml_15_129 : az_mlp 15 129 0 az_m_X7_image 1 := ⟨_, _, az_mp_X7_image, Or.inl ⟨rfl, rfl, rfl, az_int 822 (by decide +kernel) rfl⟩⟩
set_option maxRecDepth 100000 in
theorem az_ml_15_132 : az_mlp 15 132 0 az_m_X8_image 1 := ⟨_, _, az_mp_X8_image, Or.inl ⟨rfl, rfl, rfl, az_int 835 (by decide +kernel) rfl⟩⟩
set_option maxRecDepth 100000 in
theorem az_ml_15_133 : az_mlp 15 133 0 az_m_X7_on 1 := ⟨_, _, az_mp_X7_on, Or.inl ⟨rfl, rfl, rfl, az_int 826 (by decide +kernel) rfl⟩⟩
set_option maxRecDepth 100000 in
theorem az_ml_15_136 : az_mlp 15 136 0 az_m_X8_on 1 := ⟨_, _, az_mp_X8_on, Or.inl ⟨rfl, rfl, rfl, az_int 842 (by decide +kernel) rfl⟩⟩
set_option maxRecDepth 100000 in
theorem az_ml_15_137 : az_mlp 15 137 0 az_m_X7_count 2 := ⟨_, _, az_mp_X7_count, Or.inl ⟨rfl, rfl, rfl, az_int 830 (by decide +kernel) rfl⟩⟩
set_option maxRecDepth 100000 in
theorem az_ml_15_140 : az_mlp 15 140 0 az_m_X8_count 2 := ⟨_, _, az_mp_X8_count, Or.inl ⟨rfl, rfl, rfl, az_int 1162 (by decide +kernel) rfl⟩⟩
set_option maxRecDepth 100000 in
theorem az_ml_15_ok : ∀ q ∈ az_ml_15, az_mlp 15 q.1 q.2.1 q.2.2.1 q.2.2.2 := List.forall_mem_cons.mpr ⟨az_ml_15_13, List.forall_mem_cons.mpr ⟨az_ml_15_17, List.forall_mem_cons.mpr ⟨az_ml_15_18, List.forall_mem_cons.mpr ⟨az_ml_15_22, List.forall_mem_cons.mpr ⟨az_ml_15_23, List.forall_mem_cons.mpr ⟨az_ml_15_27, List.forall_mem_cons.mpr ⟨az_ml_15_28, List.forall_mem_cons.mpr ⟨az_ml_15_31, List.forall_mem_cons.mpr ⟨az_ml_15_32, List.forall_mem_cons.mpr ⟨az_ml_15_35, List.forall_mem_cons.mpr ⟨az_ml_15_36, List.forall_mem_cons.mpr ⟨az_ml_15_39, List.forall_mem_cons.mpr ⟨az_ml_15_40, List.forall_mem_cons.mpr ⟨az_ml_15_43, List.forall_mem_cons.mpr ⟨az_ml_15_44, List.forall_mem_cons.mpr ⟨az_ml_15_47, List.forall_mem_cons.mpr ⟨az_ml_15_48, List.forall_mem_cons.mpr ⟨az_ml_15_51, List.forall_mem_cons.mpr ⟨az_ml_15_52, List.forall_mem_cons.mpr ⟨az_ml_15_55, List.forall_mem_cons.mpr ⟨az_ml_15_56, List.forall_mem_cons.mpr ⟨az_ml_15_59, List.forall_mem_cons.mpr ⟨az_ml_15_60, List.forall_mem_cons.mpr ⟨az_ml_15_63, List.forall_mem_cons.mpr ⟨az_ml_15_64, List.forall_mem_cons.mpr ⟨az_ml_15_67, List.forall_mem_cons.mpr ⟨az_ml_15_68, List.forall_mem_cons.mpr ⟨az_ml_15_71, List.forall_mem_cons.mpr ⟨az_ml_15_72, List.forall_mem_cons.mpr ⟨az_ml_15_75, List.forall_mem_cons.mpr ⟨az_ml_15_76, List.forall_mem_cons.mpr ⟨az_ml_15_79, List.forall_mem_cons.mpr ⟨az_ml_15_80, List.forall_mem_cons.mpr ⟨az_ml_15_83, List.forall_mem_cons.mpr ⟨az_ml_15_84, List.forall_mem_cons.mpr ⟨az_ml_15_87, List.forall_mem_cons.mpr ⟨az_ml_15_88, List.forall_mem_cons.mpr ⟨az_ml_15_91, List.forall_mem_cons.mpr ⟨az_ml_15_92, List.forall_mem_cons.mpr ⟨az_ml_15_95, List.forall_mem_cons.mpr ⟨az_ml_15_96, List.forall_mem_cons.mpr ⟨az_ml_15_99, List.forall_mem_cons.mpr ⟨az_ml_15_100, List.forall_mem_cons.mpr ⟨az_ml_15_103, List.forall_mem_cons.mpr ⟨az_ml_15_104, List.forall_mem_cons.mpr ⟨az_ml_15_108, List.forall_mem_cons.mpr ⟨az_ml_15_109, List.forall_mem_cons.mpr ⟨az_ml_15_112, List.forall_mem_cons.mpr ⟨az_ml_15_113, List.forall_mem_cons.mpr ⟨az_ml_15_116, List.forall_mem_cons.mpr ⟨az_ml_15_117, List.forall_mem_cons.mpr ⟨az_ml_15_120, List.forall_mem_cons.mpr ⟨az_ml_15_121, List.forall_mem_cons.mpr ⟨az_ml_15_124, List.forall_mem_cons.mpr ⟨az_ml_15_125, List.forall_mem_cons.mpr ⟨az_ml_15_128, List.forall_mem_cons.mpr ⟨az_ml_15_129, List.forall_mem_cons.mpr ⟨az_ml_15_132, List.forall_mem_cons.mpr ⟨az_ml_15_133, List.forall_mem_cons.mpr ⟨az_ml_15_136, List.forall_mem_cons.mpr ⟨az_ml_15_137, List.forall_mem_cons.mpr ⟨az_ml_15_140, fun _ h => absurd h List.not_mem_nil⟩⟩⟩⟩⟩⟩⟩⟩⟩⟩⟩⟩⟩⟩⟩⟩⟩⟩⟩⟩⟩⟩⟩⟩⟩⟩⟩⟩⟩⟩⟩⟩⟩⟩⟩⟩⟩⟩⟩⟩⟩⟩⟩⟩⟩⟩⟩⟩⟩⟩⟩⟩⟩⟩⟩⟩⟩⟩⟩⟩⟩⟩
theorem az_ml_ok {c k tag na : Nat} {C : az_M} (h : az_ml c k = some (tag, C, na)) : az_mlp c k tag C na := by
  unfold az_ml at h
  split at h
  · exact az_ml_0_ok _ (az_pool_in h)
  · exact az_ml_1_ok _ (az_pool_in h)
  · exact az_ml_2_ok _ (az_pool_in h)
  · exact az_ml_3_ok _ (az_pool_in h)
  · exact az_ml_4_ok _ (az_pool_in h)
  · exact az_ml_5_ok _ (az_pool_in h)
  · exact az_ml_6_ok _ (az_pool_in h)
  · exact az_ml_7_ok _ (az_pool_in h)
  · exact az_ml_8_ok _ (az_pool_in h)
  · exact az_ml_9_ok _ (az_pool_in h)
  · exact az_ml_10_ok _ (az_pool_in h)
  · exact az_ml_11_ok _ (az_pool_in h)
  · exact az_ml_15_ok _ (az_pool_in h)
  · cases h
def az_txr : List (Nat × String × Nat) := [(75, "##;", 1000), (77, "#;", 1001), (65, "#k#,###;", 1002), (67, "f#;", 1003), (69, "", 1004), (79, "anrhue", 1005), (85, "lomtbf", 1006)]
def az_ldp (c k : Nat) (v : Value) : Prop := (∃ x : Int32, v = .int x ∧ Cond.constant (az_own c) k x ∈ az_wg) ∨ (c = 5 ∧ ∃ tx a, v = .ref a ∧ (k, tx, a) ∈ az_txr)
set_option maxRecDepth 100000 in
theorem az_ld_0_ok : ∀ q ∈ az_ldc_0, az_ldp 0 q.1 q.2 := List.forall_mem_cons.mpr ⟨Or.inl ⟨_, rfl, az_int 731 (by decide +kernel) rfl⟩, fun _ h => absurd h List.not_mem_nil⟩
set_option maxRecDepth 100000 in
theorem az_ld_2_ok : ∀ q ∈ az_ldc_2, az_ldp 2 q.1 q.2 := List.forall_mem_cons.mpr ⟨Or.inl ⟨_, rfl, az_int 722 (by decide +kernel) rfl⟩, fun _ h => absurd h List.not_mem_nil⟩
set_option maxRecDepth 100000 in
theorem az_ld_5_ok : ∀ q ∈ az_ldc_5, az_ldp 5 q.1 q.2 := List.forall_mem_cons.mpr ⟨Or.inr ⟨rfl, _, _, rfl, List.mem_of_getElem? (i := 2) rfl⟩, List.forall_mem_cons.mpr ⟨Or.inr ⟨rfl, _, _, rfl, List.mem_of_getElem? (i := 3) rfl⟩, List.forall_mem_cons.mpr ⟨Or.inr ⟨rfl, _, _, rfl, List.mem_of_getElem? (i := 4) rfl⟩, List.forall_mem_cons.mpr ⟨Or.inr ⟨rfl, _, _, rfl, List.mem_of_getElem? (i := 0) rfl⟩, List.forall_mem_cons.mpr ⟨Or.inr ⟨rfl, _, _, rfl, List.mem_of_getElem? (i := 1) rfl⟩, List.forall_mem_cons.mpr ⟨Or.inr ⟨rfl, _, _, rfl, List.mem_of_getElem? (i := 5) rfl⟩, List.forall_mem_cons.mpr ⟨Or.inr ⟨rfl, _, _, rfl, List.mem_of_getElem? (i := 6) rfl⟩, fun _ h => absurd h List.not_mem_nil⟩⟩⟩⟩⟩⟩⟩
set_option maxRecDepth 100000 in
theorem az_ld_6_ok : ∀ q ∈ az_ldc_6, az_ldp 6 q.1 q.2 := List.forall_mem_cons.mpr ⟨Or.inl ⟨_, rfl, az_int 811 (by decide +kernel) rfl⟩, List.forall_mem_cons.mpr ⟨Or.inl ⟨_, rfl, az_int 812 (by decide +kernel) rfl⟩, List.forall_mem_cons.mpr ⟨Or.inl ⟨_, rfl, az_int 813 (by decide +kernel) rfl⟩, fun _ h => absurd h List.not_mem_nil⟩⟩⟩
set_option maxRecDepth 100000 in
theorem az_ld_7_ok : ∀ q ∈ az_ldc_7, az_ldp 7 q.1 q.2 := List.forall_mem_cons.mpr ⟨Or.inl ⟨_, rfl, az_int 776 (by decide +kernel) rfl⟩, List.forall_mem_cons.mpr ⟨Or.inl ⟨_, rfl, az_int 614 (by decide +kernel) rfl⟩, fun _ h => absurd h List.not_mem_nil⟩⟩
set_option maxRecDepth 100000 in
theorem az_ld_8_ok : ∀ q ∈ az_ldc_8, az_ldp 8 q.1 q.2 := List.forall_mem_cons.mpr ⟨Or.inl ⟨_, rfl, az_int 1049 (by decide +kernel) rfl⟩, List.forall_mem_cons.mpr ⟨Or.inl ⟨_, rfl, az_int 1151 (by decide +kernel) rfl⟩, List.forall_mem_cons.mpr ⟨Or.inl ⟨_, rfl, az_int 1152 (by decide +kernel) rfl⟩, List.forall_mem_cons.mpr ⟨Or.inl ⟨_, rfl, az_int 1153 (by decide +kernel) rfl⟩, fun _ h => absurd h List.not_mem_nil⟩⟩⟩⟩
set_option maxRecDepth 100000 in
theorem az_ld_11_ok : ∀ q ∈ az_ldc_11, az_ldp 11 q.1 q.2 := List.forall_mem_cons.mpr ⟨Or.inl ⟨_, rfl, az_int 427 (by decide +kernel) rfl⟩, fun _ h => absurd h List.not_mem_nil⟩
set_option maxRecDepth 100000 in
theorem az_ld_14_ok : ∀ q ∈ az_ldc_14, az_ldp 14 q.1 q.2 := List.forall_mem_cons.mpr ⟨Or.inl ⟨_, rfl, az_int 456 (by decide +kernel) rfl⟩, List.forall_mem_cons.mpr ⟨Or.inl ⟨_, rfl, az_int 452 (by decide +kernel) rfl⟩, fun _ h => absurd h List.not_mem_nil⟩⟩
theorem az_ld_ok {c k : Nat} {v : Value} (h : az_ldc c k = some v) : az_ldp c k v := by
  unfold az_ldc at h
  split at h
  · exact az_ld_0_ok _ (az_pool_in h)
  · exact az_ld_2_ok _ (az_pool_in h)
  · exact az_ld_5_ok _ (az_pool_in h)
  · exact az_ld_6_ok _ (az_pool_in h)
  · exact az_ld_7_ok _ (az_pool_in h)
  · exact az_ld_8_ok _ (az_pool_in h)
  · exact az_ld_11_ok _ (az_pool_in h)
  · exact az_ld_14_ok _ (az_pool_in h)
  · cases h
def az_csp (c k : Nat) (v : Value) : Prop := (v = .int 1 ∧ Cond.fieldLink (az_own c) k "java/lang/String" "COMPACT_STRINGS" "Z" ∈ az_wg) ∨ (v = .retAddr 0 ∧ Cond.fieldLink (az_own c) k "jdk/internal/util/Preconditions" "SIOOBE_FORMATTER" "Ljava/util/function/BiFunction;" ∈ az_wg)
set_option maxRecDepth 100000 in
theorem az_cs_9_ok : ∀ q ∈ az_cs_9, az_csp 9 q.1 q.2 := List.forall_mem_cons.mpr ⟨Or.inl ⟨rfl, az_int 351 (by decide +kernel) rfl⟩, List.forall_mem_cons.mpr ⟨Or.inr ⟨rfl, az_int 367 (by decide +kernel) rfl⟩, fun _ h => absurd h List.not_mem_nil⟩⟩
theorem az_cs_ok {c k : Nat} {v : Value} (h : az_cs c k = some v) : az_csp c k v := by
  unfold az_cs at h
  split at h
  · exact az_cs_9_ok _ (az_pool_in h)
  · cases h
def az_mxp (c k : Nat) (b : Bool) : Prop := (b = true ∧ Cond.methodLink (az_own c) k Lib.Math.max.name ∈ az_wg) ∨ (b = false ∧ Cond.methodLink (az_own c) k Lib.Math.min.name ∈ az_wg)
set_option maxRecDepth 100000 in
theorem az_mx_0_ok : ∀ q ∈ az_mx_0, az_mxp 0 q.1 q.2 := List.forall_mem_cons.mpr ⟨Or.inr ⟨rfl, az_int 698 (by decide +kernel) rfl⟩, List.forall_mem_cons.mpr ⟨Or.inl ⟨rfl, az_int 712 (by decide +kernel) rfl⟩, fun _ h => absurd h List.not_mem_nil⟩⟩
set_option maxRecDepth 100000 in
theorem az_mx_1_ok : ∀ q ∈ az_mx_1, az_mxp 1 q.1 q.2 := List.forall_mem_cons.mpr ⟨Or.inr ⟨rfl, az_int 484 (by decide +kernel) rfl⟩, fun _ h => absurd h List.not_mem_nil⟩
set_option maxRecDepth 100000 in
theorem az_mx_2_ok : ∀ q ∈ az_mx_2, az_mxp 2 q.1 q.2 := List.forall_mem_cons.mpr ⟨Or.inl ⟨rfl, az_int 762 (by decide +kernel) rfl⟩, fun _ h => absurd h List.not_mem_nil⟩
set_option maxRecDepth 100000 in
theorem az_mx_3_ok : ∀ q ∈ az_mx_3, az_mxp 3 q.1 q.2 := List.forall_mem_cons.mpr ⟨Or.inr ⟨rfl, az_int 636 (by decide +kernel) rfl⟩, fun _ h => absurd h List.not_mem_nil⟩
set_option maxRecDepth 100000 in
theorem az_mx_5_ok : ∀ q ∈ az_mx_5, az_mxp 5 q.1 q.2 := List.forall_mem_cons.mpr ⟨Or.inr ⟨rfl, az_int 282 (by decide +kernel) rfl⟩, fun _ h => absurd h List.not_mem_nil⟩
set_option maxRecDepth 100000 in
theorem az_mx_6_ok : ∀ q ∈ az_mx_6, az_mxp 6 q.1 q.2 := List.forall_mem_cons.mpr ⟨Or.inl ⟨rfl, az_int 538 (by decide +kernel) rfl⟩, fun _ h => absurd h List.not_mem_nil⟩
set_option maxRecDepth 100000 in
theorem az_mx_7_ok : ∀ q ∈ az_mx_7, az_mxp 7 q.1 q.2 := List.forall_mem_cons.mpr ⟨Or.inr ⟨rfl, az_int 650 (by decide +kernel) rfl⟩, List.forall_mem_cons.mpr ⟨Or.inl ⟨rfl, az_int 651 (by decide +kernel) rfl⟩, fun _ h => absurd h List.not_mem_nil⟩⟩
set_option maxRecDepth 100000 in
theorem az_mx_8_ok : ∀ q ∈ az_mx_8, az_mxp 8 q.1 q.2 := List.forall_mem_cons.mpr ⟨Or.inl ⟨rfl, az_int 1008 (by decide +kernel) rfl⟩, List.forall_mem_cons.mpr ⟨Or.inr ⟨rfl, az_int 1082 (by decide +kernel) rfl⟩, fun _ h => absurd h List.not_mem_nil⟩⟩
set_option maxRecDepth 100000 in
theorem az_mx_10_ok : ∀ q ∈ az_mx_10, az_mxp 10 q.1 q.2 := List.forall_mem_cons.mpr ⟨Or.inr ⟨rfl, az_int 418 (by decide +kernel) rfl⟩, List.forall_mem_cons.mpr ⟨Or.inl ⟨rfl, az_int 415 (by decide +kernel) rfl⟩, fun _ h => absurd h List.not_mem_nil⟩⟩
set_option maxRecDepth 100000 in
theorem az_mx_11_ok : ∀ q ∈ az_mx_11, az_mxp 11 q.1 q.2 := List.forall_mem_cons.mpr ⟨Or.inr ⟨rfl, az_int 426 (by decide +kernel) rfl⟩, List.forall_mem_cons.mpr ⟨Or.inl ⟨rfl, az_int 425 (by decide +kernel) rfl⟩, fun _ h => absurd h List.not_mem_nil⟩⟩
theorem az_mx_ok {c k : Nat} {b : Bool} (h : az_mx c k = some b) : az_mxp c k b := by
  unfold az_mx at h
  split at h
  · exact az_mx_0_ok _ (az_pool_in h)
  · exact az_mx_1_ok _ (az_pool_in h)
  · exact az_mx_2_ok _ (az_pool_in h)
  · exact az_mx_3_ok _ (az_pool_in h)
  · exact az_mx_5_ok _ (az_pool_in h)
  · exact az_mx_6_ok _ (az_pool_in h)
  · exact az_mx_7_ok _ (az_pool_in h)
  · exact az_mx_8_ok _ (az_pool_in h)
  · exact az_mx_10_ok _ (az_pool_in h)
  · exact az_mx_11_ok _ (az_pool_in h)
  · cases h
set_option maxRecDepth 100000 in
theorem az_mathw : (Cond.static Lib.Math.max.name ∈ az_wg ∧ Cond.code Lib.Math.max.name Lib.Math.max.code 2 (some .int) ∈ az_wg) ∧ (Cond.static Lib.Math.min.name ∈ az_wg ∧ Cond.code Lib.Math.min.name Lib.Math.min.code 2 (some .int) ∈ az_wg) ∧ Cond.initialized "java/lang/Math" ∈ az_wg := ⟨⟨az_int 416 (by decide +kernel) rfl, az_int 417 (by decide +kernel) rfl⟩, ⟨az_int 283 (by decide +kernel) rfl, az_int 284 (by decide +kernel) rfl⟩, az_int 10 (by decide +kernel) rfl⟩
def az_cl9 (ci : Nat) : String × Nat := match vwCl[ci]? with
  | some (C, _, N) => (C, N)
  | none => ("", 0)
def az_wok : Bool := az_wd.all fun kd => match kd with
  | .inl (ci, fs) => Nat.blt ci 9 && (Nat.beq fs.length (az_cl9 ci).2 && (List.range (az_cl9 ci).2).all fun j => match fs[j]? with
    | some none => !(az_T ci j).2.2.2 && (bif az_isZ ci j then decide ((az_T ci j).2.2.1 = "Z") else decide ((az_T ci j).2.2.1 = "I"))
    | _ => true)
  | .inr (t, n) => Nat.blt t 3 && Nat.blt n 2147483648
theorem az_wok_ok : az_wok = true := by decide +kernel
def az_clp (ci : Nat) : Prop := vwCl[ci]? = some (az_own ci, az_T ci, (az_cl9 ci).2) ∧ (∀ w ∈ u_ws (az_own ci) (az_T ci) (az_cl9 ci).2, w ∈ az_wg) ∧ (∃ ty : Nat → FieldType, ∀ k, k < (az_cl9 ci).2 → parseFieldDescriptor ((az_T ci) k).2.2.1 = some (ty k)) ∧ (∀ a, a < (az_cl9 ci).2 → ∀ b, b < (az_cl9 ci).2 → a ≠ b → ((az_T ci) a).2.1 ≠ ((az_T ci) b).2.1) ∧ ∀ k, k < (az_cl9 ci).2 → ((az_T ci) k).1 = az_own ci
theorem az_clp_ok : ∀ ci, ci < 9 → az_clp ci
  | 0, _ => ⟨rfl, az_inX0, ⟨_, tyX0_ok⟩, nmX0, by decide +kernel⟩
  | 1, _ => ⟨rfl, az_inX1, ⟨_, tyX1_ok⟩, nmX1, by decide +kernel⟩
  | 2, _ => ⟨rfl, az_inX2, ⟨_, tyX2_ok⟩, nmX2, by decide +kernel⟩
  | 3, _ => ⟨rfl, az_inX3, ⟨_, tyX3_ok⟩, nmX3, by decide +kernel⟩
  | 4, _ => ⟨rfl, az_inX4, ⟨_, tyX4_ok⟩, nmX4, by decide +kernel⟩
  | 5, _ => ⟨rfl, az_inX5, ⟨_, tyX5_ok⟩, nmX5, by decide +kernel⟩
  | 6, _ => ⟨rfl, az_inX6, ⟨_, tyX6_ok⟩, nmX6, by decide +kernel⟩
  | 7, _ => ⟨rfl, az_inX7, ⟨_, tyX7_ok⟩, nmX7, by decide +kernel⟩
  | 8, _ => ⟨rfl, az_inX8, ⟨_, tyX8_ok⟩, nmX8, by decide +kernel⟩
  | n + 9, h => absurd h (by omega)
