/-! the constructors, run by evaluation -/
def pv_wl (i : Instr) : Bool := match i with
  | .iconst _ | .bipush _ | .sipush _ | .ldc _ | .ldc_w _ | .iload_n _ | .aload_n _ | .istore_n _ | .iinc _ _ | .dup | .if_icmp _ _ | .goto _ | .getfield _ | .putfield _ | .iastore | .aastore | .new _ | .newarray _ | .anewarray _ | .invokespecial _ => true
  | _ => false
def pv_nz (st : List Value) : Bool := st.all (fun v => match v with
  | .ref a => Nat.ble 17 a
  | _ => true)
def pv_run (call : Nat → List Value → ph_T → Option ph_T) (G : pm_T) : Nat → ps_T → Option ph_T
  | 0, _ => none
  | n + 1, s => match pf G s.1 with
    | none => none
    | some e => match e.2.1, s.2.2.1 with
      | .return_, [] => some s.2.2.2
      | i, st => match pv_wl i && pv_nz st with
        | false => none
        | true => match ps_step 0 e s with
          | some s1 => pv_run call G n s1
          | none => match i with
            | .invokespecial _ => match Nat.blt e.2.2.2.1 193 && (Nat.ble (pm e.2.2.2.1).2.2.2.2.2.1 st.length && (Nat.ble 1 (pm e.2.2.2.1).2.2.2.2.2.1 && Nat.ble (pk_sum (st.drop (pm e.2.2.2.1).2.2.2.2.2.1)) 8)) with
              | true => match (st.take (pm e.2.2.2.1).2.2.2.2.2.1).reverse with
                | .ref b :: Bs => match call e.2.2.2.1 (.ref b :: Bs) s.2.2.2 with
                  | some h' => pv_run call G n (e.2.2.1, s.2.1, st.drop (pm e.2.2.2.1).2.2.2.2.2.1, h')
                  | none => none
                | _ => none
              | false => none
            | _ => none
def pv (d : Nat) : Nat → List Value → ph_T → Option ph_T := match d with
  | 0 => fun _ _ _ => none
  | d + 1 => fun m As h => match Nat.ble (pk_sum As) (pm m).2.2.2.1 && decide ((pm m).2.2.2.2.1 = none) with
    | true => pv_run (pv d) (pm m) 3000 (pr_E As h)
    | false => none
def hc_0 : ph_T := ([], fun _ _ => 0, fun _ _ => 0)
/-- the ints behind the constructors -/
def INI (a j : Nat) : Int32 := if a = 111 then -1 else if a = 43 ∨ a = 104 ∨ a = 132 then -1000000 else 0
def hc_1 : Option ph_T := pv 5 59 [.ref 17] (ph_new hc_0 18 9)
def hc_2 : Option ph_T := match hc_1 with
  | some h => pv 5 115 [.ref 110] (ph_new h 19 44)
  | none => none
def hc_len : Option ph_T → Bool
  | some h => decide (h.1.length = 93)
  | none => false
theorem hc_l1 : hc_len hc_1 = true := by decide +kernel
def hc_ok2 : Option ph_T → Bool
  | some h => decide (h.1 = SH) && (List.range 124).all (fun i => (List.range (SH.getD i (0, 0)).2).all (fun j => decide (h.2.1 (17 + i) j = MR (17 + i) j) && decide (h.2.2 (17 + i) j = INI (17 + i) j)))
  | none => false
theorem hc_t2 : hc_ok2 hc_2 = true := by decide +kernel
