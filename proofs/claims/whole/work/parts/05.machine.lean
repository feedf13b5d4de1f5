/-! The pure machine: the methods of this claim run over an abstract heap of known shape. Values are the machine's own, but a reference holds a place (a number) of the shape, not an address. -/
/-- a place's shape: an object (its class, what each field is: 0 an int, 1 a boolean, t + 2 null or the place t), or an array (0 int, 1 boolean, 2 byte, 3 rows from the place b on; its length; b) -/
abbrev ly_E : Type := (Nat × List Nat) ⊕ (Nat × Nat × Nat)
/-- the state: fields by place and number, elements by place and index, cells made, slots made -/
abbrev ks_S : Type := (Nat → Nat → Int32) × (Nat → Nat → Int32) × Nat × Nat
/-- what the world gives: positions to places, places' shapes -/
abbrev kg_G : Type := (Nat → Nat) × (Nat → Nat) × (Nat → Option ly_E)
def kg_pos (G : kg_G) : Nat → Nat := G.1
def kg_inv (G : kg_G) : Nat → Nat := G.2.1
def kg_ly (G : kg_G) : Nat → Option ly_E := G.2.2
/-- program counter, locals, stack, state -/
abbrev kx_F : Type := Nat × List (Option Value) × List Value × ks_S
def ks_iv (S : ks_S) (i k : Nat) : Int32 := S.1 i k
def ks_av (S : ks_S) (i k : Nat) : Int32 := S.2.1 i k
def ks_si (S : ks_S) (i k : Nat) (x : Int32) : ks_S := (va_up S.1 i (upd (S.1 i) k x), S.2)
def ks_sa (S : ks_S) (i k : Nat) (x : Int32) : ks_S := (S.1, va_up S.2.1 i (upd (S.2.1 i) k x), S.2.2)
def ks_row (S : ks_S) (i : Nat) (f : Nat → Int32) : ks_S := (S.1, va_up S.2.1 i f, S.2.2)
def kx_fld (S : ks_S) (i k g : Nat) : Value := match g with
  | 0 => .int (ks_iv S i k)
  | 1 => .int (ks_iv S i k)
  | t + 2 => if ks_iv S i k = 0 then .null else .ref t
def kx_put (S : ks_S) (i k g : Nat) (v : Value) : Option ks_S := match g with
  | 0 => match v with
    | .int x => some (ks_si S i k x)
    | _ => none
  | 1 => match v with
    | .int x => if x = 0 ∨ x = 1 then some (ks_si S i k x) else none
    | _ => none
  | t + 2 => match v with
    | .ref j => if j = t then some (ks_si S i k 1) else none
    | .null => some (ks_si S i k 0)
    | _ => none
def kg_is (G : kg_G) (S : ks_S) (i : Nat) : Bool := decide (i < 1000 ∧ kg_pos G i < S.2.2.1)
/-- an object's shape, if it stands -/
def kg_ob (G : kg_G) (S : ks_S) (i : Nat) : Option (Nat × List Nat) := match kg_ly G i with
  | some (.inl o) => if kg_is G S i = true then some o else none
  | _ => none
/-- an array's shape, if it stands, or is an old one -/
def kg_ar (G : kg_G) (S : ks_S) (i : Nat) : Option (Nat × Nat × Nat) := match kg_ly G i with
  | some (.inr a) => if kg_is G S i = true ∨ 1000 ≤ i then some a else none
  | _ => none
/-- an array that may be written -/
def kg_aw (G : kg_G) (S : ks_S) (i : Nat) : Option (Nat × Nat × Nat) := match kg_ly G i with
  | some (.inr a) => if kg_is G S i = true then some a else none
  | _ => none
def kx_in (j : Int32) (n : Nat) : Bool := decide (¬ (j < 0 ∨ n ≤ j.toNatClampNeg))
def kx_ld (lv : List (Option Value)) (i : Nat) : Option Value := match lv[i]? with
  | some o => o
  | none => none
/-- a long at j is no more, if its second half is written -/
def kx_kill (lv : List (Option Value)) (i : Nat) (L : List (Option Value)) : List (Option Value) := match i with
  | 0 => L
  | j + 1 => match lv[j]? with
    | some (some v) => if v.category = 2 then L.set j none else L
    | _ => L
def kx_s1 (lv : List (Option Value)) (i : Nat) (v : Value) : List (Option Value) := kx_kill lv i (lv.set i (some v))
def kx_s2 (lv : List (Option Value)) (i : Nat) (v : Value) : List (Option Value) := kx_kill lv i ((lv.set (i + 1) none).set i (some v))
def kx_j (pc : Nat) (off : Int) : Option Nat := if 0 ≤ (pc : Int) + off then some ((pc : Int) + off).toNat else none
def kx_i (st : List Value) (f : Int32 → List Value → Option kx_F) : Option kx_F := match st with
  | .int x :: r => f x r
  | _ => none
def kx_ii (st : List Value) (f : Int32 → Int32 → List Value → Option kx_F) : Option kx_F := match st with
  | .int y :: .int x :: r => f x y r
  | _ => none
def kx_l (st : List Value) (f : Int64 → List Value → Option kx_F) : Option kx_F := match st with
  | .long x :: r => f x r
  | _ => none
def kx_ll (st : List Value) (f : Int64 → Int64 → List Value → Option kx_F) : Option kx_F := match st with
  | .long y :: .long x :: r => f x y r
  | _ => none
def kx_li (st : List Value) (f : Int64 → Int32 → List Value → Option kx_F) : Option kx_F := match st with
  | .int y :: .long x :: r => f x y r
  | _ => none
def kx_a (st : List Value) (f : Nat → List Value → Option kx_F) : Option kx_F := match st with
  | .ref a :: r => f a r
  | _ => none
def kx_ia (st : List Value) (f : Int32 → Nat → List Value → Option kx_F) : Option kx_F := match st with
  | .int j :: .ref a :: r => f j a r
  | _ => none
def kx_iia (st : List Value) (f : Int32 → Int32 → Nat → List Value → Option kx_F) : Option kx_F := match st with
  | .int x :: .int j :: .ref a :: r => f x j a r
  | _ => none
def kx_v (st : List Value) (f : Value → List Value → Option kx_F) : Option kx_F := match st with
  | v :: r => f v r
  | _ => none
def kx_to (c : Prop) [Decidable c] (pc : Nat) (off : Int) (lv : List (Option Value)) (r : List Value) (S : ks_S) : Option kx_F := match kx_j pc off with
  | some t => if c then some (t, lv, r, S) else some (pc + 3, lv, r, S)
  | none => none
def kx_ldi (lv : List (Option Value)) (i : Nat) (f : Int32 → Option kx_F) : Option kx_F := match kx_ld lv i with
  | some (.int x) => f x
  | _ => none
def kx_ldl (lv : List (Option Value)) (i : Nat) (f : Int64 → Option kx_F) : Option kx_F := match kx_ld lv i with
  | some (.long x) => f x
  | _ => none
def kx_lda (lv : List (Option Value)) (i : Nat) (f : Nat → Option kx_F) : Option kx_F := match kx_ld lv i with
  | some (.ref x) => f x
  | _ => none
def kf (own idx : Nat) : Option (String × Nat × Nat) := (kf_tab.find? (fun e => e.1 == own && e.2.1 == idx)).map (fun e => e.2.2)
def ks (own idx : Nat) : Option (String × Nat) := (ks_tab.find? (fun e => e.1 == own && e.2.1 == idx)).map (fun e => e.2.2)
def kw (own idx : Nat) : Option Nat := (kw_tab.find? (fun e => e.1 == own && e.2.1 == idx)).map (fun e => e.2.2)
def kq (own idx : Nat) : Option Int32 := (kq_tab.find? (fun e => e.1 == own && e.2.1 == idx)).map (fun e => e.2.2)
def kl (own idx : Nat) : Option Int64 := (kl_tab.find? (fun e => e.1 == own && e.2.1 == idx)).map (fun e => e.2.2)
def kc (own idx : Nat) : Option (Nat × String × km_E) := (kc_tab.find? (fun e => e.1 == own && e.2.1 == idx)).map (fun e => e.2.2)
def kt (own idx : Nat) : Option Nat := (kt_tab.find? (fun e => e.1 == own && e.2.1 == idx)).map (fun e => e.2.2)
def kx_tag (t : ArrayType) : Nat := match t with
  | .int => 0
  | .boolean => 1
  | .byte => 2
  | _ => 9
def kx_ty (t : Nat) : FieldType := match t with
  | 0 => .int
  | 1 => .boolean
  | 2 => .byte
  | _ => .array .int
/-- how long an instruction is (where that isn't told by itself, as long as it is) -/
def ki_len (i : Instr) (len : Nat) : Nat := match i with
  | .tableswitch _ _ _ _ => len
  | .lookupswitch _ _ => len
  | .iinc _ _ => len
  | .bipush _ => 2
  | .ldc _ => 2
  | .iload _ => 2
  | .lload _ => 2
  | .aload _ => 2
  | .istore _ => 2
  | .lstore _ => 2
  | .astore _ => 2
  | .newarray _ => 2
  | .sipush _ => 3
  | .ldc_w _ => 3
  | .ldc2_w _ => 3
  | .ifCond _ _ => 3
  | .if_icmp _ _ => 3
  | .goto _ => 3
  | .ifnonnull _ => 3
  | .getfield _ => 3
  | .putfield _ => 3
  | .getstatic _ => 3
  | .new _ => 3
  | .invokevirtual _ => 3
  | .invokestatic _ => 3
  | .invokespecial _ => 3
  | .multianewarray _ _ => 4
  | _ => 1
/-- a final field is written by its own class's constructor alone -/
def kx_fin (E : km_E) (host : String) (ci k : Nat) : Bool := !((kf_C ci).2.1 k).2.2.2 || (host == "" && (km_y E).name == "<init>" && ci == km_own E)
/-- one instruction that is neither a call nor a return -/
def kx (G : kg_G) (E : km_E) (i : Instr) (len pc : Nat) (lv : List (Option Value)) (st : List Value) (S : ks_S) : Option kx_F := match i with
  | .iconst n => some (pc + 1, lv, .int (Int32.ofInt n) :: st, S)
  | .bipush n => some (pc + 2, lv, .int ((Int8.ofInt n).toInt32) :: st, S)
  | .sipush n => some (pc + 3, lv, .int ((Int16.ofInt n).toInt32) :: st, S)
  | .lconst n => some (pc + 1, lv, .long (Int64.ofNat (n : Nat)) :: st, S)
  | .aconst_null => some (pc + 1, lv, .null :: st, S)
  | .ldc idx => match kq (km_own E) idx with
    | some v => some (pc + 2, lv, .int v :: st, S)
    | none => none
  | .ldc_w idx => match kq (km_own E) idx with
    | some v => some (pc + 3, lv, .int v :: st, S)
    | none => none
  | .ldc2_w idx => match kl (km_own E) idx with
    | some v => some (pc + 3, lv, .long v :: st, S)
    | none => none
  | .iload_n k => kx_ldi lv (k : Nat) fun x => some (pc + 1, lv, .int x :: st, S)
  | .iload k => kx_ldi lv k fun x => some (pc + 2, lv, .int x :: st, S)
  | .lload_n k => kx_ldl lv (k : Nat) fun x => some (pc + 1, lv, .long x :: st, S)
  | .lload k => kx_ldl lv k fun x => some (pc + 2, lv, .long x :: st, S)
  | .aload_n k => kx_lda lv (k : Nat) fun x => some (pc + 1, lv, .ref x :: st, S)
  | .aload k => kx_lda lv k fun x => some (pc + 2, lv, .ref x :: st, S)
  | .istore_n k => kx_i st fun x r => if (k : Nat) < km_L E then some (pc + 1, kx_s1 lv (k : Nat) (.int x), r, S) else none
  | .istore k => kx_i st fun x r => if k < km_L E then some (pc + 2, kx_s1 lv k (.int x), r, S) else none
  | .lstore_n k => kx_l st fun x r => if (k : Nat) + 1 < km_L E then some (pc + 1, kx_s2 lv (k : Nat) (.long x), r, S) else none
  | .lstore k => kx_l st fun x r => if k + 1 < km_L E then some (pc + 2, kx_s2 lv k (.long x), r, S) else none
  | .astore_n k => kx_a st fun x r => if (k : Nat) < km_L E then some (pc + 1, kx_s1 lv (k : Nat) (.ref x), r, S) else none
  | .astore k => kx_a st fun x r => if k < km_L E then some (pc + 2, kx_s1 lv k (.ref x), r, S) else none
  | .iinc k n => kx_ldi lv k fun x => if k < km_L E then (if len = 3 then some (pc + 3, kx_s1 lv k (.int (x + Int32.ofInt n)), st, S) else if len = 6 then some (pc + 6, kx_s1 lv k (.int (x + Int32.ofInt n)), st, S) else none) else none
  | .iadd => kx_ii st fun x y r => some (pc + 1, lv, .int (x + y) :: r, S)
  | .isub => kx_ii st fun x y r => some (pc + 1, lv, .int (x - y) :: r, S)
  | .imul => kx_ii st fun x y r => some (pc + 1, lv, .int (x * y) :: r, S)
  | .iand => kx_ii st fun x y r => some (pc + 1, lv, .int (x &&& y) :: r, S)
  | .ior => kx_ii st fun x y r => some (pc + 1, lv, .int (x ||| y) :: r, S)
  | .ixor => kx_ii st fun x y r => some (pc + 1, lv, .int (x ^^^ y) :: r, S)
  | .idiv => kx_ii st fun x y r => if y = 0 then none else some (pc + 1, lv, .int (x / y) :: r, S)
  | .irem => kx_ii st fun x y r => if y = 0 then none else some (pc + 1, lv, .int (x - x / y * y) :: r, S)
  | .ineg => kx_i st fun x r => some (pc + 1, lv, .int (-x) :: r, S)
  | .ishl => kx_ii st fun x y r => some (pc + 1, lv, .int (x <<< (y &&& 31)) :: r, S)
  | .ishr => kx_ii st fun x y r => some (pc + 1, lv, .int (x >>> (y &&& 31)) :: r, S)
  | .iushr => kx_ii st fun x y r => some (pc + 1, lv, .int ((x.toUInt32 >>> (y.toUInt32 &&& Int32.toUInt32 31)).toInt32) :: r, S)
  | .ladd => kx_ll st fun x y r => some (pc + 1, lv, .long (x + y) :: r, S)
  | .lsub => kx_ll st fun x y r => some (pc + 1, lv, .long (x - y) :: r, S)
  | .lmul => kx_ll st fun x y r => some (pc + 1, lv, .long (x * y) :: r, S)
  | .land => kx_ll st fun x y r => some (pc + 1, lv, .long (x &&& y) :: r, S)
  | .lor => kx_ll st fun x y r => some (pc + 1, lv, .long (x ||| y) :: r, S)
  | .ldiv => kx_ll st fun x y r => if y = 0 then none else some (pc + 1, lv, .long (x / y) :: r, S)
  | .lrem => kx_ll st fun x y r => if y = 0 then none else some (pc + 1, lv, .long (x - x / y * y) :: r, S)
  | .lshl => kx_li st fun x y r => some (pc + 1, lv, .long (x <<< (y.toInt64 &&& 63)) :: r, S)
  | .lshr => kx_li st fun x y r => some (pc + 1, lv, .long (x >>> (y.toInt64 &&& 63)) :: r, S)
  | .lcmp => kx_ll st fun x y r => some (pc + 1, lv, .int (lg_cmp x y) :: r, S)
  | .i2l => kx_i st fun x r => some (pc + 1, lv, .long x.toInt64 :: r, S)
  | .l2i => kx_l st fun x r => some (pc + 1, lv, .int x.toInt32 :: r, S)
  | .i2b => kx_i st fun x r => some (pc + 1, lv, .int x.toInt8.toInt32 :: r, S)
  | .i2s => kx_i st fun x r => some (pc + 1, lv, .int x.toInt16.toInt32 :: r, S)
  | .dup => kx_v st fun v r => if v.category = 1 then some (pc + 1, lv, v :: v :: r, S) else none
  | .pop => kx_v st fun v r => if v.category = 1 then some (pc + 1, lv, r, S) else none
  | .dup2 => kx_v st fun v r => kx_v r fun w r => if v.category = 1 ∧ w.category = 1 then some (pc + 1, lv, v :: w :: v :: w :: r, S) else none
  | .ifCond .eq off => kx_i st fun x r => kx_to (x = 0) pc off lv r S
  | .ifCond .ne off => kx_i st fun x r => kx_to (¬ x = 0) pc off lv r S
  | .ifCond .lt off => kx_i st fun x r => kx_to (x < 0) pc off lv r S
  | .ifCond .ge off => kx_i st fun x r => kx_to (0 ≤ x) pc off lv r S
  | .ifCond .gt off => kx_i st fun x r => kx_to (0 < x) pc off lv r S
  | .ifCond .le off => kx_i st fun x r => kx_to (x ≤ 0) pc off lv r S
  | .if_icmp .eq off => kx_ii st fun x y r => kx_to (x = y) pc off lv r S
  | .if_icmp .ne off => kx_ii st fun x y r => kx_to (¬ x = y) pc off lv r S
  | .if_icmp .lt off => kx_ii st fun x y r => kx_to (x < y) pc off lv r S
  | .if_icmp .ge off => kx_ii st fun x y r => kx_to (y ≤ x) pc off lv r S
  | .if_icmp .gt off => kx_ii st fun x y r => kx_to (y < x) pc off lv r S
  | .if_icmp .le off => kx_ii st fun x y r => kx_to (x ≤ y) pc off lv r S
  | .goto off => match kx_j pc off with
    | some t => some (t, lv, st, S)
    | none => none
  | .ifnonnull off => kx_v st fun v r => match v with
    | .ref _ => match kx_j pc off with
      | some t => some (t, lv, r, S)
      | none => none
    | .null => some (pc + 3, lv, r, S)
    | _ => none
  | .tableswitch dflt lo hi offs => kx_i st fun x r => if x.toInt < lo ∨ hi < x.toInt then (match kx_j pc dflt with
      | some t => some (t, lv, r, S)
      | none => none) else match offs[(x.toInt - lo).toNat]? with
      | some off => (match kx_j pc off with
        | some t => some (t, lv, r, S)
        | none => none)
      | none => none
  | .lookupswitch dflt ps => kx_i st fun x r => if (ps.toList.zip (ps.toList.drop 1)).all (fun (a, next) => a.1 < next.1) = true then (match kx_j pc (Op.lookupswitch.offset ps.toList dflt x.toInt) with
      | some t => some (t, lv, r, S)
      | none => none) else none
  | .getfield idx => kx_a st fun a r => match kf (km_own E) idx with
    | some (_, ci, k) => match kg_ob G S a with
      | some (cj, tg) => if cj = ci then (match tg[k]? with
        | some g => some (pc + 3, lv, kx_fld S a k g :: r, S)
        | none => none) else none
      | none => none
    | none => none
  | .putfield idx => kx_v st fun v r => kx_a r fun a r => match kf (km_own E) idx with
    | some (host, ci, k) => match kg_ob G S a with
      | some (cj, tg) => if cj = ci ∧ kx_fin E host ci k = true then (match tg[k]? with
        | some g => (match kx_put S a k g v with
          | some S' => some (pc + 3, lv, r, S')
          | none => none)
        | none => none) else none
      | none => none
    | none => none
  | .getstatic idx => match ks (km_own E) idx with
    | some (_, k) => some (pc + 3, lv, .ref (1000 + k) :: st, S)
    | none => none
  | .iaload => kx_ia st fun j a r => match kg_ar G S a with
    | some (t, n, _) => if t = 0 ∧ kx_in j n = true then some (pc + 1, lv, .int (ks_av S a j.toNatClampNeg) :: r, S) else none
    | none => none
  | .baload => kx_ia st fun j a r => match kg_aw G S a with
    | some (t, n, _) => if (t = 1 ∨ t = 2) ∧ kx_in j n = true then some (pc + 1, lv, .int (ks_av S a j.toNatClampNeg) :: r, S) else none
    | none => none
  | .aaload => kx_ia st fun j a r => match kg_aw G S a with
    | some (t, n, b) => if t = 3 ∧ kx_in j n = true then some (pc + 1, lv, .ref (b + j.toNatClampNeg) :: r, S) else none
    | none => none
  | .arraylength => kx_a st fun a r => match kg_ar G S a with
    | some (t, n, _) => if t < 3 then some (pc + 1, lv, .int (Int32.ofNat n) :: r, S) else none
    | none => none
  | .iastore => kx_iia st fun x j a r => match kg_aw G S a with
    | some (t, n, _) => if t = 0 ∧ kx_in j n = true then some (pc + 1, lv, r, ks_sa S a j.toNatClampNeg x) else none
    | none => none
  | .bastore => kx_iia st fun x j a r => match kg_aw G S a with
    | some (t, n, _) => if (t = 1 ∨ t = 2) ∧ kx_in j n = true then some (pc + 1, lv, r, ks_sa S a j.toNatClampNeg (vp_nar (kx_ty t) x)) else none
    | none => none
  | .new idx => match kw (km_own E) idx with
    | some ci => match kg_ly G (kg_inv G S.2.2.1) with
      | some (.inl (cj, tg)) => if cj = ci ∧ kg_inv G S.2.2.1 < 1000 then some (pc + 3, lv, .ref (kg_inv G S.2.2.1) :: st, (va_up S.1 (kg_inv G S.2.2.1) (fun _ => 0), S.2.1, S.2.2.1 + 1, S.2.2.2 + tg.length)) else none
      | _ => none
    | none => none
  | .newarray ty => kx_i st fun x r => match kg_ly G (kg_inv G S.2.2.1) with
    | some (.inr (t, n, _)) => if t = kx_tag ty ∧ t < 3 ∧ kg_inv G S.2.2.1 < 1000 ∧ ¬ x < 0 ∧ x.toNatClampNeg = n ∧ n < 100000 then some (pc + 2, lv, .ref (kg_inv G S.2.2.1) :: r, (S.1, va_up S.2.1 (kg_inv G S.2.2.1) (fun _ => 0), S.2.2.1 + 1, S.2.2.2 + n)) else none
    | _ => none
  | .multianewarray idx 2 => kx_ii st fun x y r => match kg_ly G (kg_inv G S.2.2.1) with
    | some (.inr (t, n, b)) => if t = 3 ∧ kg_inv G S.2.2.1 < 1000 ∧ b + n ≤ 1000 ∧ (km_own E, idx) ∈ kw_mul ∧ ¬ x < 0 ∧ x.toNatClampNeg = n ∧ n < 100000 ∧ ¬ y < 0 ∧ y.toNatClampNeg < 100000 ∧ (List.range n).all (fun j => kg_inv G (S.2.2.1 + 1 + j) == b + j && (match kg_ly G (b + j) with | some (.inr (t', n', _)) => t' == 0 && n' == y.toNatClampNeg | _ => false)) = true then some (pc + 4, lv, .ref (kg_inv G S.2.2.1) :: r, (S.1, (fun i => if b ≤ i ∧ i < b + n then fun _ => 0 else S.2.1 i), S.2.2.1 + 1 + n, S.2.2.2 + n + n * y.toNatClampNeg)) else none
    | _ => none
  | _ => none
def kx_cat (r : List Value) : Nat := (r.map fun v => v.category).sum
/-- the method's locals at its start -/
def kx_en (n : Nat) : List Value → List (Option Value)
  | [] => List.replicate n none
  | v :: vs => if v.category = 2 then some v :: none :: kx_en (n - 2) vs else some v :: kx_en (n - 1) vs
def kx_len (vs : List Value) : Nat := (lg_sl vs).length
/-- arraycopy of int arrays -/
def kx_cp (G : kg_G) (f l pc : Nat) (lv : List (Option Value)) (st : List Value) (S : ks_S) : Option kx_F := match st with
  | .int n :: .int dp :: .ref a :: .int sp :: .ref a0 :: r => match kg_aw G S a0 with
    | some (t0, n0, _) => match kg_aw G S a with
      | some (t1, n1, _) => if t0 = 0 ∧ t1 = 0 ∧ ¬ sp < 0 ∧ ¬ dp < 0 ∧ ¬ n < 0 ∧ sp.toNatClampNeg + n.toNatClampNeg ≤ n0 ∧ dp.toNatClampNeg + n.toNatClampNeg ≤ n1 ∧ 1 ≤ f ∧ kx_cat r + 18 ≤ l then some (pc + 3, lv, r, ks_row S a (va_cpy (S.2.1 a0) (S.2.1 a) sp.toNatClampNeg dp.toNatClampNeg n.toNatClampNeg)) else none
      | none => none
    | none => none
  | _ => none
/-- max, min, abs of Math -/
def kx_mm (f l pc : Nat) (w : Nat) (lv : List (Option Value)) (st : List Value) (S : ks_S) : Option kx_F := match w with
  | 0 => kx_ii st fun x y r => if 1 ≤ f ∧ kx_cat r + 13 ≤ l then some (pc + 3, lv, .int (if x < y then y else x) :: r, S) else none
  | 1 => kx_ii st fun x y r => if 1 ≤ f ∧ kx_cat r + 13 ≤ l then some (pc + 3, lv, .int (if y < x then y else x) :: r, S) else none
  | _ => kx_i st fun x r => if 1 ≤ f ∧ kx_cat r + 13 ≤ l then some (pc + 3, lv, .int (if 0 ≤ x then x else 0 - x) :: r, S) else none
/-- what a return gives, if the method may give it: 0 ireturn, 1 lreturn, 2 areturn -/
def kx_ret (kd : Nat) (r : Option FieldType) (v : Value) : Bool := match kd with
  | 0 => match v with
    | .int x => match r with
      | some .int => true
      | some .boolean => decide (x = 0 ∨ x = 1)
      | _ => false
    | _ => false
  | 1 => match v with
    | .long _ => match r with
      | some .long => true
      | _ => false
    | _ => false
  | _ => match v with
    | .ref _ => match r with
      | some (.object _) => true
      | _ => false
    | _ => false
def kx_rcv (G : kg_G) (S : ks_S) (own : Nat) (vs : List Value) : Bool := match vs with
  | .ref a :: _ => decide ((kg_ob G S a).map (fun q => q.1) = some own)
  | _ => false
def km_na (kd : Nat) (E : km_E) : Nat := if kd = 1 then km_n E else km_n E + 1
abbrev kr_T : Type := km_E → Nat → List (Option Value) → List Value → ks_S → Option (Option Value × ks_S)
/-- a call may be made: its kind, the room, the arguments, the receiver -/
def kx_ok (G : kg_G) (E E' : km_E) (kd k : Nat) (st : List Value) (S : ks_S) : Bool := decide (k = kd ∧ km_f E' + 1 ≤ km_f E ∧ 8 + (km_L E' + 11) + km_l E' ≤ km_l E ∧ km_na kd E' ≤ st.length ∧ kx_cat (st.drop (km_na kd E')) ≤ 8 ∧ kx_len ((st.take (km_na kd E')).reverse) ≤ km_L E') && (kd == 1 || kx_rcv G S (km_own E') ((st.take (km_na kd E')).reverse))
def kr_call (G : kg_G) (run : kr_T) (kd : Nat) (o : Option (Nat × String × km_E)) (E : km_E) (pc : Nat) (lv : List (Option Value)) (st : List Value) (S : ks_S) : Option (Option Value × ks_S) := match o with
  | some (k, _, E') => if kx_ok G E E' kd k st S = true then (match run E' 0 (kx_en (km_L E') ((st.take (km_na kd E')).reverse)) [] S with
    | some (v, S') => run E (pc + 3) lv (v.toList ++ st.drop (km_na kd E')) S'
    | none => none) else none
  | none => none
def kr_on (run : kr_T) (E : km_E) (o : Option kx_F) : Option (Option Value × ks_S) := match o with
  | some (pc', lv', st', S') => run E pc' lv' st' S'
  | none => none
def kr_ret (kd : Nat) (E : km_E) (st : List Value) (S : ks_S) : Option (Option Value × ks_S) := match st with
  | [v] => if kx_ret kd (km_r E) v = true then some (some v, S) else none
  | _ => none
def kx_ob1 (E : km_E) (pc : Nat) (lv : List (Option Value)) (st : List Value) (S : ks_S) : Option kx_F := match st with
  | .ref _ :: r => if 1 ≤ km_f E ∧ kx_cat r + 12 ≤ km_l E then some (pc + 3, lv, r, S) else none
  | _ => none
def kr_step (G : kg_G) (run : kr_T) (E : km_E) (pc : Nat) (lv : List (Option Value)) (st : List Value) (S : ks_S) : Option (Option Value × ks_S) := match decode (km_c E) pc with
  | .error _ => none
  | .ok (i, len) => if len = ki_len i len then (match i with
    | .ireturn => kr_ret 0 E st S
    | .lreturn => kr_ret 1 E st S
    | .areturn => kr_ret 2 E st S
    | .return_ => if st.isEmpty = true ∧ km_r E = none then some (none, S) else none
    | .invokevirtual idx => kr_call G run 0 (kc (km_own E) idx) E pc lv st S
    | .invokestatic idx => if (km_own E, idx) ∈ kc_cpy then kr_on run E (kx_cp G (km_f E) (km_l E) pc lv st S) else match kt (km_own E) idx with
      | some w => kr_on run E (kx_mm (km_f E) (km_l E) pc w lv st S)
      | none => kr_call G run 1 (kc (km_own E) idx) E pc lv st S
    | .invokespecial idx => if (km_own E, idx) ∈ kc_obj then kr_on run E (kx_ob1 E pc lv st S) else kr_call G run 2 (kc (km_own E) idx) E pc lv st S
    | i => kr_on run E (kx G E i len pc lv st S)) else none
/-- the run of a method: n steps at most, till it returns -/
def kr (G : kg_G) : Nat → kr_T
  | 0 => fun _ _ _ _ _ => none
  | n + 1 => kr_step G (kr G n)
