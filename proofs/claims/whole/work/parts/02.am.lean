/-! ===== THE ABSTRACT MACHINE: numbers, and references as (kind, number of the object in its kind) ===== -/
abbrev xm_V : Type := Int32 ⊕ Option (Nat × Nat)
/-- ints by kind, object, slot; references likewise; the lists' elements; counts (0 c: how many of a kind; 0 100 the heap's size; 0 101 slots made; 1 k a list's size; 2 k its state (0 raw, 1 empty, else its capacity); 10 + c, k: an array's length); addresses by kind and number (18 k: a list's own array) -/
abbrev xm_S : Type := (Nat → Nat → Nat → Int32) × (Nat → Nat → Nat → Option Nat) × (Nat → Nat → Nat × Nat) × (Nat → Nat → Nat) × (Nat → Nat → Nat)
abbrev xm_i (S : xm_S) : Nat → Nat → Nat → Int32 := S.1
abbrev xm_r (S : xm_S) : Nat → Nat → Nat → Option Nat := S.2.1
abbrev xm_l (S : xm_S) : Nat → Nat → Nat × Nat := S.2.2.1
abbrev xm_n (S : xm_S) : Nat → Nat → Nat := S.2.2.2.1
abbrev xm_a (S : xm_S) : Nat → Nat → Nat := S.2.2.2.2
def xm_u2 {α : Type} (f : Nat → Nat → α) (a b : Nat) (x : α) : Nat → Nat → α := fun p q => if p = a ∧ q = b then x else f p q
def xm_u3 {α : Type} (f : Nat → Nat → Nat → α) (a b c : Nat) (x : α) : Nat → Nat → Nat → α := fun p q r => if p = a ∧ q = b ∧ r = c then x else f p q r
def xm_si (S : xm_S) (c k j : Nat) (x : Int32) : xm_S := (xm_u3 S.1 c k j x, S.2)
def xm_sr (S : xm_S) (c k j : Nat) (x : Option Nat) : xm_S := (S.1, xm_u3 S.2.1 c k j x, S.2.2)
def xm_sl (S : xm_S) (k i : Nat) (x : Nat × Nat) : xm_S := (S.1, S.2.1, xm_u2 S.2.2.1 k i x, S.2.2.2)
def xm_sn (S : xm_S) (a b x : Nat) : xm_S := (S.1, S.2.1, S.2.2.1, xm_u2 S.2.2.2.1 a b x, S.2.2.2.2)
def xm_rf (c : Nat) : Option Nat → xm_V
  | none => .inr none
  | some k => .inr (some (c, k))
/-- a new cell of a kind, of N slots -/
def xm_mk (c N : Nat) (S : xm_S) : xm_S :=
  (fun p q j => if p = c ∧ q = xm_n S 0 c then 0 else xm_i S p q j,
   fun p q j => if p = c ∧ q = xm_n S 0 c then none else xm_r S p q j,
   xm_l S,
   fun p q => if p = 0 ∧ q = c then xm_n S 0 c + 1 else if p = 0 ∧ q = 100 then xm_n S 0 100 + 1 else if p = 0 ∧ q = 101 then xm_n S 0 101 + N else if p = 10 + c ∧ q = xm_n S 0 c then N else if c = 12 ∧ (p = 1 ∨ p = 2) ∧ q = xm_n S 0 12 then 0 else xm_n S p q,
   xm_u2 (xm_a S) c (xm_n S 0 c) (xm_n S 0 100))
/-- the list k gets a new array of N places -/
def xm_grow (k N : Nat) (S : xm_S) : xm_S :=
  (S.1, S.2.1, S.2.2.1,
   fun p q => if p = 2 ∧ q = k then N else if p = 0 ∧ q = 100 then xm_n S 0 100 + 1 else if p = 0 ∧ q = 101 then xm_n S 0 101 + N else xm_n S p q,
   xm_u2 (xm_a S) 18 k (xm_n S 0 100))
def xm_room (k : Nat) (S : xm_S) : xm_S :=
  if xm_n S 2 k = 1 then xm_grow k 10 S else if xm_n S 1 k = xm_n S 2 k then xm_grow k (xm_n S 2 k + xm_n S 2 k / 2) S else S
def xm_push (k : Nat) (x : Nat × Nat) (S : xm_S) : xm_S := xm_sn (xm_sl (xm_room k S) k (xm_n S 1 k) x) 1 k (xm_n S 1 k + 1)
def xm_drop (k i : Nat) (S : xm_S) : xm_S :=
  xm_sn (S.1, S.2.1, (fun p q => if p = k ∧ i ≤ q then xm_l S k (q + 1) else xm_l S p q), S.2.2.2) 1 k (xm_n S 1 k - 1)
/-- an index within bounds, as a number -/
def xm_ix (i : Int32) (n : Nat) : Option Nat := if i < 0 ∨ n ≤ i.toNatClampNeg then none else some i.toNatClampNeg
/-- the types of the classes' fields: 0 int, 1 boolean, 2 + c a reference to kind c -/
def xm_tyL : List (List Nat) := [[14, 14, 14, 14, 14, 14, 14, 14, 14, 14, 14, 14, 12, 0, 0, 0], [0, 0, 0, 1, 0, 0], [0, 8, 4, 0, 7, 0, 11, 0, 0, 0, 1, 6, 0, 0, 1, 4, 0, 4, 4, 0], [11, 8, 0, 0], [0, 0, 0, 7, 11, 6, 6], [0, 0, 0, 0, 0, 0, 0, 0, 0, 4, 0, 0, 14, 0, 17], [0, 12, 11, 0, 0, 0, 4], [12, 11, 0, 0, 0, 0, 0, 0, 0, 0, 0, 0, 1], [11, 0, 0, 0, 0], [0, 0, 0, 0], [14], [0, 0, 15, 15, 15, 0, 15, 15, 15, 15, 15, 0, 15, 15, 15, 15, 15, 0, 15, 15, 15, 15, 15, 0, 15, 15, 15, 15, 15, 15, 0, 15, 15, 15, 15, 15, 15, 15, 15, 15, 15, 15, 15, 15, 15, 15, 16, 0, 15, 15, 0, 15, 15, 15, 15, 15, 15, 15, 15, 15, 0, 0, 15, 15, 15, 15, 15, 15, 15, 15, 15, 16, 15, 15, 15, 16, 16, 16, 16, 16, 16, 15, 0, 15, 15, 15, 15, 15, 0, 0, 15, 15, 15, 15, 15, 15, 15, 15, 15, 15, 15, 15, 16, 0, 15, 15, 15, 15, 15, 16], [99, 0, 0]]
def xm_ty (c j : Nat) : Nat := if c = 15 then 4 else (xm_tyL.getD c []).getD j 0
def xm_nf (c : Nat) : Nat := (xm_tyL.getD c []).length
abbrev xm_L : Type := List (Option xm_V)
/-- what a step comes to: on to another place; an end with an answer; a call (method, arguments, where to go on, locals, what lies below) -/
abbrev xm_R : Type := (Nat × xm_L × List xm_V × xm_S) ⊕ ((Option xm_V) ⊕ (Nat × List xm_V × Nat × xm_L × List xm_V))
abbrev xm_nx (pc : Nat) (L : xm_L) (st : List xm_V) (S : xm_S) : Option xm_R := some (.inl (pc, L, st, S))
def xm_cmp (cd : Jvm.ClassFile.Cond) (x y : Int32) : Bool := match cd with
  | .eq => decide (x = y)
  | .ne => decide (¬ x = y)
  | .lt => decide (x < y)
  | .ge => decide (y ≤ x)
  | .gt => decide (y < x)
  | .le => decide (x ≤ y)
/-- null, or an object of one of our classes -/
def xm_k12 (x : Option (Nat × Nat)) : Bool := match x with | none => true | some q => decide (q.1 < 12)
/-- the JDK's members: a reference's kind 12 is ArrayList -/
def xm_intr (q : Nat) (nx : Nat) (L : xm_L) (st : List xm_V) (S : xm_S) : Option xm_R := match q, st with
  | 1000, .inr (some (12, k)) :: st => if xm_n S 2 k = 0 then xm_nx nx L st (xm_sn S 2 k 1) else none
  | 1001, .inr (some x) :: .inr (some (12, k)) :: st => if xm_n S 2 k = 0 ∨ 100000 ≤ xm_n S 1 k ∨ 12 ≤ x.1 then none else xm_nx nx L (.inl 1 :: st) (xm_push k x S)
  | 1002, .inl i :: .inr (some (12, k)) :: st => (xm_ix i (xm_n S 1 k)).bind fun j => xm_nx nx L (.inr (some (xm_l S k j)) :: st) S
  | 1003, .inr (some x) :: .inl i :: .inr (some (12, k)) :: st => if 12 ≤ x.1 then none else (xm_ix i (xm_n S 1 k)).bind fun j => xm_nx nx L (.inr (some (xm_l S k j)) :: st) (xm_sl S k j x)
  | 1004, .inl i :: .inr (some (12, k)) :: st => (xm_ix i (xm_n S 1 k)).bind fun j => xm_nx nx L (.inr (some (xm_l S k j)) :: st) (xm_drop k j S)
  | 1005, .inr (some (12, k)) :: st => xm_nx nx L (.inl (nI (xm_n S 1 k)) :: st) S
  | 1006, .inr (some (12, k)) :: st => xm_nx nx L (.inl (if xm_n S 1 k = 0 then 1 else 0) :: st) S
  | 1007, .inl x :: st => xm_nx nx L (.inl (if 0 ≤ x then x else -x) :: st) S
  | 1008, .inl y :: .inl x :: st => xm_nx nx L (.inl (if x ≤ y then x else y) :: st) S
  | 1009, .inr (some _) :: st => xm_nx nx L st S
  | _, _ => none
/-- a field is f: (kind * 256 + slot) * 32 + type -/
def xm_getf (f nx : Nat) (L : xm_L) (st : List xm_V) (S : xm_S) : Option xm_R := match st with
  | .inr (some (c, k)) :: st => if c = f / 8192 then (if f % 32 < 2 then xm_nx nx L (.inl (xm_i S c k (f / 32 % 256)) :: st) S else xm_nx nx L (xm_rf (f % 32 - 2) (xm_r S c k (f / 32 % 256)) :: st) S) else none
  | _ => none
def xm_putf (f nx : Nat) (L : xm_L) (st : List xm_V) (S : xm_S) : Option xm_R := match st with
  | .inl x :: .inr (some (c, k)) :: st => if c = f / 8192 ∧ (f % 32 = 0 ∨ f % 32 = 1 ∧ (x = 0 ∨ x = 1)) then xm_nx nx L st (xm_si S c k (f / 32 % 256) x) else none
  | .inr none :: .inr (some (c, k)) :: st => if c = f / 8192 ∧ 2 ≤ f % 32 then xm_nx nx L st (xm_sr S c k (f / 32 % 256) none) else none
  | .inr (some (d, e)) :: .inr (some (c, k)) :: st => if c = f / 8192 ∧ f % 32 = d + 2 then xm_nx nx L st (xm_sr S c k (f / 32 % 256) (some e)) else none
  | _ => none
def xm_ald (nx : Nat) (L : xm_L) (st : List xm_V) (S : xm_S) : Option xm_R := match st with
  | .inl i :: .inr (some (c, k)) :: st => if c = 15 then (xm_ix i (xm_n S 25 k)).bind fun j => xm_nx nx L (xm_rf 2 (xm_r S 15 k j) :: st) S else none
  | _ => none
def xm_ild (nx : Nat) (L : xm_L) (st : List xm_V) (S : xm_S) : Option xm_R := match st with
  | .inl i :: .inr (some (c, k)) :: st => if c = 13 ∨ c = 16 ∨ c = 17 then (xm_ix i (xm_n S (10 + c) k)).bind fun j => xm_nx nx L (.inl (xm_i S c k j) :: st) S else none
  | _ => none
def xm_zld (nx : Nat) (L : xm_L) (st : List xm_V) (S : xm_S) : Option xm_R := match st with
  | .inl i :: .inr (some (c, k)) :: st => if c = 14 then (xm_ix i (xm_n S 24 k)).bind fun j => xm_nx nx L (.inl (xm_i S 14 k j) :: st) S else none
  | _ => none
def xm_ist (nx : Nat) (L : xm_L) (st : List xm_V) (S : xm_S) : Option xm_R := match st with
  | .inl x :: .inl i :: .inr (some (c, k)) :: st => if c = 13 then (xm_ix i (xm_n S 23 k)).bind fun j => xm_nx nx L st (xm_si S 13 k j x) else none
  | _ => none
def xm_zst (nx : Nat) (L : xm_L) (st : List xm_V) (S : xm_S) : Option xm_R := match st with
  | .inl x :: .inl i :: .inr (some (c, k)) :: st => if c = 14 ∧ (x = 0 ∨ x = 1) then (xm_ix i (xm_n S 24 k)).bind fun j => xm_nx nx L st (xm_si S 14 k j x) else none
  | _ => none
def xm_ast (nx : Nat) (L : xm_L) (st : List xm_V) (S : xm_S) : Option xm_R := match st with
  | .inr (some (d, e)) :: .inl i :: .inr (some (c, k)) :: st => if c = 15 ∧ d = 2 then (xm_ix i (xm_n S 25 k)).bind fun j => xm_nx nx L st (xm_sr S 15 k j (some e)) else none
  | _ => none
def xm_alen (nx : Nat) (L : xm_L) (st : List xm_V) (S : xm_S) : Option xm_R := match st with
  | .inr (some (c, k)) :: st => if 13 ≤ c ∧ c ≤ 17 then xm_nx nx L (.inl (nI (xm_n S (10 + c) k)) :: st) S else none
  | _ => none
/-- a new array of N places: the length is a number that isn't negative, at most 20000 -/
def xm_newa (c nx : Nat) (L : xm_L) (st : List xm_V) (S : xm_S) : Option xm_R := match st with
  | .inl x :: st => if x < 0 ∨ 20000 < x.toNatClampNeg then none else xm_nx nx L (.inr (some (c, xm_n S 0 c)) :: st) (xm_mk c x.toNatClampNeg S)
  | _ => none
/-- the receiver of a call is of the kind that is asked for (0: there is none) -/
def xm_rcv (kd : Nat) (as : List xm_V) : Bool := if kd = 0 then true else match as with
  | .inr (some (c, _)) :: _ => decide (c + 1 = kd)
  | _ => false
/-- a call: q is ((method * 16 + number of arguments) * 16 + the receiver's kind and 1) -/
def xm_call (q nx : Nat) (L : xm_L) (st : List xm_V) (S : xm_S) : Option xm_R :=
  if 256000 ≤ q then (if st.length ≤ 8 then xm_intr (q / 256) nx L st S else none)
  else if (q / 16 % 16 ≤ st.length ∧ st.length ≤ q / 16 % 16 + 6) ∧ xm_rcv (q % 16) (st.take (q / 16 % 16)).reverse = true then some (.inr (.inr (q / 256, (st.take (q / 16 % 16)).reverse, nx, L, st.drop (q / 16 % 16)))) else none
def xm_step (q : Instr × Nat) (L : xm_L) (st : List xm_V) (S : xm_S) : Option xm_R := match q.1 with
  | .iconst x => xm_nx q.2 L (.inl (Int32.ofInt x) :: st) S
  | .aconst_null => xm_nx q.2 L (.inr none :: st) S
  | .iload i => (match L[i]? with | some (some (.inl x)) => xm_nx q.2 L (.inl x :: st) S | _ => none)
  | .aload i => (match L[i]? with | some (some (.inr x)) => xm_nx q.2 L (.inr x :: st) S | _ => none)
  | .istore i => (match st with | .inl x :: st => if i < L.length then xm_nx q.2 (L.set i (some (.inl x))) st S else none | _ => none)
  | .astore i => (match st with | .inr x :: st => if i < L.length then xm_nx q.2 (L.set i (some (.inr x))) st S else none | _ => none)
  | .iinc i n => (match L[i]? with | some (some (.inl x)) => xm_nx q.2 (L.set i (some (.inl (x + Int32.ofInt n)))) st S | _ => none)
  | .iadd => (match st with | .inl y :: .inl x :: st => xm_nx q.2 L (.inl (x + y) :: st) S | _ => none)
  | .isub => (match st with | .inl y :: .inl x :: st => xm_nx q.2 L (.inl (x - y) :: st) S | _ => none)
  | .imul => (match st with | .inl y :: .inl x :: st => xm_nx q.2 L (.inl (x * y) :: st) S | _ => none)
  | .iand => (match st with | .inl y :: .inl x :: st => xm_nx q.2 L (.inl (x &&& y) :: st) S | _ => none)
  | .ior => (match st with | .inl y :: .inl x :: st => xm_nx q.2 L (.inl (x ||| y) :: st) S | _ => none)
  | .ishl => (match st with | .inl y :: .inl x :: st => xm_nx q.2 L (.inl (x <<< (y &&& 31)) :: st) S | _ => none)
  | .irem => (match st with | .inl y :: .inl x :: st => if y = 0 then none else xm_nx q.2 L (.inl (x - x / y * y) :: st) S | _ => none)
  | .ineg => (match st with | .inl x :: st => xm_nx q.2 L (.inl (-x) :: st) S | _ => none)
  | .dup => (match st with | v :: st => xm_nx q.2 L (v :: v :: st) S | _ => none)
  | .dup_x1 => (match st with | v :: w :: st => xm_nx q.2 L (v :: w :: v :: st) S | _ => none)
  | .dup2 => (match st with | v :: w :: st => xm_nx q.2 L (v :: w :: v :: w :: st) S | _ => none)
  | .pop => (match st with | _ :: st => xm_nx q.2 L st S | _ => none)
  | .ifCond cd t => (match st with | .inl x :: st => xm_nx (if xm_cmp cd x 0 = true then t.toNat else q.2) L st S | _ => none)
  | .if_icmp cd t => (match st with | .inl y :: .inl x :: st => xm_nx (if xm_cmp cd x y = true then t.toNat else q.2) L st S | _ => none)
  | .if_acmp .eq t => (match st with | .inr y :: .inr x :: st => if xm_k12 x = true ∧ xm_k12 y = true then xm_nx (if x = y then t.toNat else q.2) L st S else none | _ => none)
  | .if_acmp .ne t => (match st with | .inr y :: .inr x :: st => if xm_k12 x = true ∧ xm_k12 y = true then xm_nx (if x = y then q.2 else t.toNat) L st S else none | _ => none)
  | .ifnull t => (match st with | .inr x :: st => xm_nx (if x = none then t.toNat else q.2) L st S | _ => none)
  | .ifnonnull t => (match st with | .inr x :: st => xm_nx (if x = none then q.2 else t.toNat) L st S | _ => none)
  | .goto t => xm_nx t.toNat L st S
  | .tableswitch d lo hi offs => (match st with | .inl x :: st => xm_nx (if x.toInt < lo ∨ hi < x.toInt then d.toNat else (offs.getD (x.toInt - lo).toNat 0).toNat) L st S | _ => none)
  | .lookupswitch d ps => (match st with | .inl x :: st => xm_nx (Op.lookupswitch.offset ps.toList d x.toInt).toNat L st S | _ => none)
  | .getfield f => xm_getf f q.2 L st S
  | .putfield f => xm_putf f q.2 L st S
  | .getstatic k => xm_nx q.2 L (.inr (some (16, k)) :: st) S
  | .new c => xm_nx q.2 L (.inr (some (c, xm_n S 0 c)) :: st) (xm_mk c (xm_nf c) S)
  | .newarray .int => xm_newa 13 q.2 L st S
  | .newarray .boolean => xm_newa 14 q.2 L st S
  | .anewarray _ => xm_newa 15 q.2 L st S
  | .iaload => xm_ild q.2 L st S
  | .baload => xm_zld q.2 L st S
  | .aaload => xm_ald q.2 L st S
  | .iastore => xm_ist q.2 L st S
  | .bastore => xm_zst q.2 L st S
  | .aastore => xm_ast q.2 L st S
  | .arraylength => xm_alen q.2 L st S
  | .checkcast c => (match st with | .inr none :: _ => xm_nx q.2 L st S | .inr (some (d, _)) :: _ => if d = c then xm_nx q.2 L st S else none | _ => none)
  | .invokevirtual j => xm_call j q.2 L st S
  | .invokespecial j => xm_call j q.2 L st S
  | .invokestatic j => xm_call j q.2 L st S
  | .ireturn => (match st with | [.inl x] => some (.inr (.inl (some (.inl x)))) | _ => none)
  | .freturn => (match st with | [.inl x] => if x = 0 ∨ x = 1 then some (.inr (.inl (some (.inl x)))) else none | _ => none)
  | .areturn => (match st with | [.inr x] => some (.inr (.inl (some (.inr x)))) | _ => none)
  | .return_ => (match st with | [] => some (.inr (.inl none)) | _ => none)
  | _ => none
