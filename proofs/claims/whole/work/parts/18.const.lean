theorem ba1 {a b : Cond} {args : Array Value} {s : State} (h : (Cond.and a b).before args s = true) : a.before args s = true := by
  rw [Cond.before_and, Bool.and_eq_true] at h; exact h.1
theorem ba2 {a b : Cond} {args : Array Value} {s : State} (h : (Cond.and a b).before args s = true) : b.before args s = true := by
  rw [Cond.before_and, Bool.and_eq_true] at h; exact h.2
/-- the bytes of the texts -/
def ab_tx (j : Nat) : List Int := match j with
  | 0 => [114, 105, 110, 103]
  | 1 => [101, 110, 100]
  | 2 => [114, 105, 110, 103, 32]
  | 3 => [32, 101, 110, 100]
  | 4 => [114, 105, 110, 103]
  | 5 => [101, 110, 100]
  | 6 => [114, 105, 110, 103, 32]
  | 7 => [32, 101, 110, 100]
  | _ => []
theorem nx_0 {s0 : State} {b0 : Nat} (h : ab_S0 s0 b0) : ((Jvm.Cond.exactly (Jvm.Term.string "BergPatrol$Text" (32 : Nat)) "java/lang/String") : Cond).before #[Value.ref b0] s0 = true := (ba1 (ba2 (ba1 (ba1 (ba1 (ba2 (ba1 (ba1 (ba2 (ba2 h.2))))))))))
theorem nc_0 {s0 : State} {b0 : Nat} (h : ab_S0 s0 b0) : ((Jvm.Cond.eq (Jvm.Term.field (Jvm.Term.string "BergPatrol$Text" (32 : Nat)) "java/lang/String" "coder" "B") (Jvm.Term.int (0 : Int32))) : Cond).before #[Value.ref b0] s0 = true := (ba1 (ba2 (ba2 (ba1 (ba1 (ba1 (ba2 (ba1 (ba1 (ba2 (ba2 h.2)))))))))))
theorem na_0 {s0 : State} {b0 : Nat} (h : ab_S0 s0 b0) : ((Jvm.Cond.arrayOf (Jvm.Term.field (Jvm.Term.string "BergPatrol$Text" (32 : Nat)) "java/lang/String" "value" "[B") Jvm.ClassFile.FieldType.byte) : Cond).before #[Value.ref b0] s0 = true := (ba2 (ba2 (ba2 (ba1 (ba1 (ba1 (ba2 (ba1 (ba1 (ba2 (ba2 h.2)))))))))))
theorem nl_0 {s0 : State} {b0 : Nat} (h : ab_S0 s0 b0) : ((Jvm.Cond.eq (Jvm.Term.length (Jvm.Term.field (Jvm.Term.string "BergPatrol$Text" (32 : Nat)) "java/lang/String" "value" "[B")) (Jvm.Term.int (4 : Int32))) : Cond).before #[Value.ref b0] s0 = true := (ba1 (ba1 (ba2 (ba1 (ba1 (ba2 (ba1 (ba1 (ba2 (ba2 h.2))))))))))
theorem ne_0_0 {s0 : State} {b0 : Nat} (h : ab_S0 s0 b0) : ((Jvm.Cond.eq (Jvm.Term.elem (Jvm.Term.field (Jvm.Term.string "BergPatrol$Text" (32 : Nat)) "java/lang/String" "value" "[B") (Jvm.Term.int (0 : Int32))) (Jvm.Term.int (114 : Int32))) : Cond).before #[Value.ref b0] s0 = true := (ba2 (ba1 (ba2 (ba1 (ba1 (ba2 (ba1 (ba1 (ba2 (ba2 h.2))))))))))
theorem ne_0_1 {s0 : State} {b0 : Nat} (h : ab_S0 s0 b0) : ((Jvm.Cond.eq (Jvm.Term.elem (Jvm.Term.field (Jvm.Term.string "BergPatrol$Text" (32 : Nat)) "java/lang/String" "value" "[B") (Jvm.Term.int (1 : Int32))) (Jvm.Term.int (105 : Int32))) : Cond).before #[Value.ref b0] s0 = true := (ba1 (ba2 (ba2 (ba1 (ba1 (ba2 (ba1 (ba1 (ba2 (ba2 h.2))))))))))
theorem ne_0_2 {s0 : State} {b0 : Nat} (h : ab_S0 s0 b0) : ((Jvm.Cond.eq (Jvm.Term.elem (Jvm.Term.field (Jvm.Term.string "BergPatrol$Text" (32 : Nat)) "java/lang/String" "value" "[B") (Jvm.Term.int (2 : Int32))) (Jvm.Term.int (110 : Int32))) : Cond).before #[Value.ref b0] s0 = true := (ba1 (ba2 (ba2 (ba2 (ba1 (ba1 (ba2 (ba1 (ba1 (ba2 (ba2 h.2)))))))))))
theorem ne_0_3 {s0 : State} {b0 : Nat} (h : ab_S0 s0 b0) : ((Jvm.Cond.eq (Jvm.Term.elem (Jvm.Term.field (Jvm.Term.string "BergPatrol$Text" (32 : Nat)) "java/lang/String" "value" "[B") (Jvm.Term.int (3 : Int32))) (Jvm.Term.int (103 : Int32))) : Cond).before #[Value.ref b0] s0 = true := (ba2 (ba2 (ba2 (ba2 (ba1 (ba1 (ba2 (ba1 (ba1 (ba2 (ba2 h.2)))))))))))
theorem nx_1 {s0 : State} {b0 : Nat} (h : ab_S0 s0 b0) : ((Jvm.Cond.exactly (Jvm.Term.string "BergPatrol$Text" (41 : Nat)) "java/lang/String") : Cond).before #[Value.ref b0] s0 = true := (ba2 (ba2 (ba2 (ba2 (ba2 (ba1 (ba2 (ba1 (ba1 (ba2 (ba2 h.2)))))))))))
theorem nc_1 {s0 : State} {b0 : Nat} (h : ab_S0 s0 b0) : ((Jvm.Cond.eq (Jvm.Term.field (Jvm.Term.string "BergPatrol$Text" (41 : Nat)) "java/lang/String" "coder" "B") (Jvm.Term.int (0 : Int32))) : Cond).before #[Value.ref b0] s0 = true := (ba1 (ba1 (ba1 (ba1 (ba2 (ba2 (ba1 (ba1 (ba2 (ba2 h.2))))))))))
theorem na_1 {s0 : State} {b0 : Nat} (h : ab_S0 s0 b0) : ((Jvm.Cond.arrayOf (Jvm.Term.field (Jvm.Term.string "BergPatrol$Text" (41 : Nat)) "java/lang/String" "value" "[B") Jvm.ClassFile.FieldType.byte) : Cond).before #[Value.ref b0] s0 = true := (ba2 (ba1 (ba1 (ba1 (ba2 (ba2 (ba1 (ba1 (ba2 (ba2 h.2))))))))))
theorem nl_1 {s0 : State} {b0 : Nat} (h : ab_S0 s0 b0) : ((Jvm.Cond.eq (Jvm.Term.length (Jvm.Term.field (Jvm.Term.string "BergPatrol$Text" (41 : Nat)) "java/lang/String" "value" "[B")) (Jvm.Term.int (3 : Int32))) : Cond).before #[Value.ref b0] s0 = true := (ba1 (ba2 (ba1 (ba1 (ba2 (ba2 (ba1 (ba1 (ba2 (ba2 h.2))))))))))
theorem ne_1_0 {s0 : State} {b0 : Nat} (h : ab_S0 s0 b0) : ((Jvm.Cond.eq (Jvm.Term.elem (Jvm.Term.field (Jvm.Term.string "BergPatrol$Text" (41 : Nat)) "java/lang/String" "value" "[B") (Jvm.Term.int (0 : Int32))) (Jvm.Term.int (101 : Int32))) : Cond).before #[Value.ref b0] s0 = true := (ba1 (ba2 (ba2 (ba1 (ba1 (ba2 (ba2 (ba1 (ba1 (ba2 (ba2 h.2)))))))))))
theorem ne_1_1 {s0 : State} {b0 : Nat} (h : ab_S0 s0 b0) : ((Jvm.Cond.eq (Jvm.Term.elem (Jvm.Term.field (Jvm.Term.string "BergPatrol$Text" (41 : Nat)) "java/lang/String" "value" "[B") (Jvm.Term.int (1 : Int32))) (Jvm.Term.int (110 : Int32))) : Cond).before #[Value.ref b0] s0 = true := (ba2 (ba2 (ba2 (ba1 (ba1 (ba2 (ba2 (ba1 (ba1 (ba2 (ba2 h.2)))))))))))
theorem ne_1_2 {s0 : State} {b0 : Nat} (h : ab_S0 s0 b0) : ((Jvm.Cond.eq (Jvm.Term.elem (Jvm.Term.field (Jvm.Term.string "BergPatrol$Text" (41 : Nat)) "java/lang/String" "value" "[B") (Jvm.Term.int (2 : Int32))) (Jvm.Term.int (100 : Int32))) : Cond).before #[Value.ref b0] s0 = true := (ba1 (ba1 (ba2 (ba1 (ba2 (ba2 (ba1 (ba1 (ba2 (ba2 h.2))))))))))
theorem nx_2 {s0 : State} {b0 : Nat} (h : ab_S0 s0 b0) : ((Jvm.Cond.exactly (Jvm.Term.string "BergPatrol" (237 : Nat)) "java/lang/String") : Cond).before #[Value.ref b0] s0 = true := (ba2 (ba1 (ba1 (ba2 (ba1 (ba1 (ba1 (ba2 (ba2 (ba2 h.2))))))))))
theorem nc_2 {s0 : State} {b0 : Nat} (h : ab_S0 s0 b0) : ((Jvm.Cond.eq (Jvm.Term.field (Jvm.Term.string "BergPatrol" (237 : Nat)) "java/lang/String" "coder" "B") (Jvm.Term.int (0 : Int32))) : Cond).before #[Value.ref b0] s0 = true := (ba1 (ba2 (ba1 (ba2 (ba1 (ba1 (ba1 (ba2 (ba2 (ba2 h.2))))))))))
theorem na_2 {s0 : State} {b0 : Nat} (h : ab_S0 s0 b0) : ((Jvm.Cond.arrayOf (Jvm.Term.field (Jvm.Term.string "BergPatrol" (237 : Nat)) "java/lang/String" "value" "[B") Jvm.ClassFile.FieldType.byte) : Cond).before #[Value.ref b0] s0 = true := (ba1 (ba2 (ba2 (ba1 (ba2 (ba1 (ba1 (ba1 (ba2 (ba2 (ba2 h.2)))))))))))
theorem nl_2 {s0 : State} {b0 : Nat} (h : ab_S0 s0 b0) : ((Jvm.Cond.eq (Jvm.Term.length (Jvm.Term.field (Jvm.Term.string "BergPatrol" (237 : Nat)) "java/lang/String" "value" "[B")) (Jvm.Term.int (5 : Int32))) : Cond).before #[Value.ref b0] s0 = true := (ba2 (ba2 (ba2 (ba1 (ba2 (ba1 (ba1 (ba1 (ba2 (ba2 (ba2 h.2)))))))))))
theorem ne_2_0 {s0 : State} {b0 : Nat} (h : ab_S0 s0 b0) : ((Jvm.Cond.eq (Jvm.Term.elem (Jvm.Term.field (Jvm.Term.string "BergPatrol" (237 : Nat)) "java/lang/String" "value" "[B") (Jvm.Term.int (0 : Int32))) (Jvm.Term.int (114 : Int32))) : Cond).before #[Value.ref b0] s0 = true := (ba1 (ba1 (ba2 (ba2 (ba1 (ba1 (ba1 (ba2 (ba2 (ba2 h.2))))))))))
theorem ne_2_1 {s0 : State} {b0 : Nat} (h : ab_S0 s0 b0) : ((Jvm.Cond.eq (Jvm.Term.elem (Jvm.Term.field (Jvm.Term.string "BergPatrol" (237 : Nat)) "java/lang/String" "value" "[B") (Jvm.Term.int (1 : Int32))) (Jvm.Term.int (105 : Int32))) : Cond).before #[Value.ref b0] s0 = true := (ba2 (ba1 (ba2 (ba2 (ba1 (ba1 (ba1 (ba2 (ba2 (ba2 h.2))))))))))
theorem ne_2_2 {s0 : State} {b0 : Nat} (h : ab_S0 s0 b0) : ((Jvm.Cond.eq (Jvm.Term.elem (Jvm.Term.field (Jvm.Term.string "BergPatrol" (237 : Nat)) "java/lang/String" "value" "[B") (Jvm.Term.int (2 : Int32))) (Jvm.Term.int (110 : Int32))) : Cond).before #[Value.ref b0] s0 = true := (ba1 (ba2 (ba2 (ba2 (ba1 (ba1 (ba1 (ba2 (ba2 (ba2 h.2))))))))))
theorem ne_2_3 {s0 : State} {b0 : Nat} (h : ab_S0 s0 b0) : ((Jvm.Cond.eq (Jvm.Term.elem (Jvm.Term.field (Jvm.Term.string "BergPatrol" (237 : Nat)) "java/lang/String" "value" "[B") (Jvm.Term.int (3 : Int32))) (Jvm.Term.int (103 : Int32))) : Cond).before #[Value.ref b0] s0 = true := (ba1 (ba2 (ba2 (ba2 (ba2 (ba1 (ba1 (ba1 (ba2 (ba2 (ba2 h.2)))))))))))
theorem ne_2_4 {s0 : State} {b0 : Nat} (h : ab_S0 s0 b0) : ((Jvm.Cond.eq (Jvm.Term.elem (Jvm.Term.field (Jvm.Term.string "BergPatrol" (237 : Nat)) "java/lang/String" "value" "[B") (Jvm.Term.int (4 : Int32))) (Jvm.Term.int (32 : Int32))) : Cond).before #[Value.ref b0] s0 = true := (ba2 (ba2 (ba2 (ba2 (ba2 (ba1 (ba1 (ba1 (ba2 (ba2 (ba2 h.2)))))))))))
theorem nx_3 {s0 : State} {b0 : Nat} (h : ab_S0 s0 b0) : ((Jvm.Cond.exactly (Jvm.Term.string "BergPatrol" (250 : Nat)) "java/lang/String") : Cond).before #[Value.ref b0] s0 = true := (ba2 (ba2 (ba2 (ba1 (ba2 (ba2 (ba1 (ba1 (ba2 (ba2 (ba2 h.2)))))))))))
theorem nc_3 {s0 : State} {b0 : Nat} (h : ab_S0 s0 b0) : ((Jvm.Cond.eq (Jvm.Term.field (Jvm.Term.string "BergPatrol" (250 : Nat)) "java/lang/String" "coder" "B") (Jvm.Term.int (0 : Int32))) : Cond).before #[Value.ref b0] s0 = true := (ba1 (ba1 (ba2 (ba2 (ba2 (ba1 (ba1 (ba2 (ba2 (ba2 h.2))))))))))
theorem na_3 {s0 : State} {b0 : Nat} (h : ab_S0 s0 b0) : ((Jvm.Cond.arrayOf (Jvm.Term.field (Jvm.Term.string "BergPatrol" (250 : Nat)) "java/lang/String" "value" "[B") Jvm.ClassFile.FieldType.byte) : Cond).before #[Value.ref b0] s0 = true := (ba2 (ba1 (ba2 (ba2 (ba2 (ba1 (ba1 (ba2 (ba2 (ba2 h.2))))))))))
theorem nl_3 {s0 : State} {b0 : Nat} (h : ab_S0 s0 b0) : ((Jvm.Cond.eq (Jvm.Term.length (Jvm.Term.field (Jvm.Term.string "BergPatrol" (250 : Nat)) "java/lang/String" "value" "[B")) (Jvm.Term.int (4 : Int32))) : Cond).before #[Value.ref b0] s0 = true := (ba1 (ba2 (ba2 (ba2 (ba2 (ba1 (ba1 (ba2 (ba2 (ba2 h.2))))))))))
theorem ne_3_0 {s0 : State} {b0 : Nat} (h : ab_S0 s0 b0) : ((Jvm.Cond.eq (Jvm.Term.elem (Jvm.Term.field (Jvm.Term.string "BergPatrol" (250 : Nat)) "java/lang/String" "value" "[B") (Jvm.Term.int (0 : Int32))) (Jvm.Term.int (32 : Int32))) : Cond).before #[Value.ref b0] s0 = true := (ba1 (ba2 (ba2 (ba2 (ba2 (ba2 (ba1 (ba1 (ba2 (ba2 (ba2 h.2)))))))))))
theorem ne_3_1 {s0 : State} {b0 : Nat} (h : ab_S0 s0 b0) : ((Jvm.Cond.eq (Jvm.Term.elem (Jvm.Term.field (Jvm.Term.string "BergPatrol" (250 : Nat)) "java/lang/String" "value" "[B") (Jvm.Term.int (1 : Int32))) (Jvm.Term.int (101 : Int32))) : Cond).before #[Value.ref b0] s0 = true := (ba2 (ba2 (ba2 (ba2 (ba2 (ba2 (ba1 (ba1 (ba2 (ba2 (ba2 h.2)))))))))))
theorem ne_3_2 {s0 : State} {b0 : Nat} (h : ab_S0 s0 b0) : ((Jvm.Cond.eq (Jvm.Term.elem (Jvm.Term.field (Jvm.Term.string "BergPatrol" (250 : Nat)) "java/lang/String" "value" "[B") (Jvm.Term.int (2 : Int32))) (Jvm.Term.int (110 : Int32))) : Cond).before #[Value.ref b0] s0 = true := (ba1 (ba1 (ba1 (ba1 (ba1 (ba2 (ba1 (ba2 (ba2 (ba2 h.2))))))))))
theorem ne_3_3 {s0 : State} {b0 : Nat} (h : ab_S0 s0 b0) : ((Jvm.Cond.eq (Jvm.Term.elem (Jvm.Term.field (Jvm.Term.string "BergPatrol" (250 : Nat)) "java/lang/String" "value" "[B") (Jvm.Term.int (3 : Int32))) (Jvm.Term.int (100 : Int32))) : Cond).before #[Value.ref b0] s0 = true := (ba2 (ba1 (ba1 (ba1 (ba1 (ba2 (ba1 (ba2 (ba2 (ba2 h.2))))))))))
theorem nx_4 {s0 : State} {b0 : Nat} (h : ab_S0 s0 b0) : ((Jvm.Cond.exactly (Jvm.Term.string "BergPatrolModel" (209 : Nat)) "java/lang/String") : Cond).before #[Value.ref b0] s0 = true := (ba1 (ba2 (ba2 (ba2 (ba1 (ba2 (ba1 (ba2 (ba2 (ba2 h.2))))))))))
theorem nc_4 {s0 : State} {b0 : Nat} (h : ab_S0 s0 b0) : ((Jvm.Cond.eq (Jvm.Term.field (Jvm.Term.string "BergPatrolModel" (209 : Nat)) "java/lang/String" "coder" "B") (Jvm.Term.int (0 : Int32))) : Cond).before #[Value.ref b0] s0 = true := (ba1 (ba2 (ba2 (ba2 (ba2 (ba1 (ba2 (ba1 (ba2 (ba2 (ba2 h.2)))))))))))
theorem na_4 {s0 : State} {b0 : Nat} (h : ab_S0 s0 b0) : ((Jvm.Cond.arrayOf (Jvm.Term.field (Jvm.Term.string "BergPatrolModel" (209 : Nat)) "java/lang/String" "value" "[B") Jvm.ClassFile.FieldType.byte) : Cond).before #[Value.ref b0] s0 = true := (ba2 (ba2 (ba2 (ba2 (ba2 (ba1 (ba2 (ba1 (ba2 (ba2 (ba2 h.2)))))))))))
theorem nl_4 {s0 : State} {b0 : Nat} (h : ab_S0 s0 b0) : ((Jvm.Cond.eq (Jvm.Term.length (Jvm.Term.field (Jvm.Term.string "BergPatrolModel" (209 : Nat)) "java/lang/String" "value" "[B")) (Jvm.Term.int (4 : Int32))) : Cond).before #[Value.ref b0] s0 = true := (ba1 (ba1 (ba1 (ba1 (ba2 (ba2 (ba1 (ba2 (ba2 (ba2 h.2))))))))))
theorem ne_4_0 {s0 : State} {b0 : Nat} (h : ab_S0 s0 b0) : ((Jvm.Cond.eq (Jvm.Term.elem (Jvm.Term.field (Jvm.Term.string "BergPatrolModel" (209 : Nat)) "java/lang/String" "value" "[B") (Jvm.Term.int (0 : Int32))) (Jvm.Term.int (114 : Int32))) : Cond).before #[Value.ref b0] s0 = true := (ba2 (ba1 (ba1 (ba1 (ba2 (ba2 (ba1 (ba2 (ba2 (ba2 h.2))))))))))
theorem ne_4_1 {s0 : State} {b0 : Nat} (h : ab_S0 s0 b0) : ((Jvm.Cond.eq (Jvm.Term.elem (Jvm.Term.field (Jvm.Term.string "BergPatrolModel" (209 : Nat)) "java/lang/String" "value" "[B") (Jvm.Term.int (1 : Int32))) (Jvm.Term.int (105 : Int32))) : Cond).before #[Value.ref b0] s0 = true := (ba1 (ba2 (ba1 (ba1 (ba2 (ba2 (ba1 (ba2 (ba2 (ba2 h.2))))))))))
theorem ne_4_2 {s0 : State} {b0 : Nat} (h : ab_S0 s0 b0) : ((Jvm.Cond.eq (Jvm.Term.elem (Jvm.Term.field (Jvm.Term.string "BergPatrolModel" (209 : Nat)) "java/lang/String" "value" "[B") (Jvm.Term.int (2 : Int32))) (Jvm.Term.int (110 : Int32))) : Cond).before #[Value.ref b0] s0 = true := (ba1 (ba2 (ba2 (ba1 (ba1 (ba2 (ba2 (ba1 (ba2 (ba2 (ba2 h.2)))))))))))
theorem ne_4_3 {s0 : State} {b0 : Nat} (h : ab_S0 s0 b0) : ((Jvm.Cond.eq (Jvm.Term.elem (Jvm.Term.field (Jvm.Term.string "BergPatrolModel" (209 : Nat)) "java/lang/String" "value" "[B") (Jvm.Term.int (3 : Int32))) (Jvm.Term.int (103 : Int32))) : Cond).before #[Value.ref b0] s0 = true := (ba2 (ba2 (ba2 (ba1 (ba1 (ba2 (ba2 (ba1 (ba2 (ba2 (ba2 h.2)))))))))))
theorem nx_5 {s0 : State} {b0 : Nat} (h : ab_S0 s0 b0) : ((Jvm.Cond.exactly (Jvm.Term.string "BergPatrolModel" (218 : Nat)) "java/lang/String") : Cond).before #[Value.ref b0] s0 = true := (ba2 (ba1 (ba1 (ba1 (ba1 (ba1 (ba2 (ba2 (ba2 (ba2 h.2))))))))))
theorem nc_5 {s0 : State} {b0 : Nat} (h : ab_S0 s0 b0) : ((Jvm.Cond.eq (Jvm.Term.field (Jvm.Term.string "BergPatrolModel" (218 : Nat)) "java/lang/String" "coder" "B") (Jvm.Term.int (0 : Int32))) : Cond).before #[Value.ref b0] s0 = true := (ba1 (ba2 (ba1 (ba1 (ba1 (ba1 (ba2 (ba2 (ba2 (ba2 h.2))))))))))
theorem na_5 {s0 : State} {b0 : Nat} (h : ab_S0 s0 b0) : ((Jvm.Cond.arrayOf (Jvm.Term.field (Jvm.Term.string "BergPatrolModel" (218 : Nat)) "java/lang/String" "value" "[B") Jvm.ClassFile.FieldType.byte) : Cond).before #[Value.ref b0] s0 = true := (ba1 (ba2 (ba2 (ba1 (ba1 (ba1 (ba1 (ba2 (ba2 (ba2 (ba2 h.2)))))))))))
theorem nl_5 {s0 : State} {b0 : Nat} (h : ab_S0 s0 b0) : ((Jvm.Cond.eq (Jvm.Term.length (Jvm.Term.field (Jvm.Term.string "BergPatrolModel" (218 : Nat)) "java/lang/String" "value" "[B")) (Jvm.Term.int (3 : Int32))) : Cond).before #[Value.ref b0] s0 = true := (ba2 (ba2 (ba2 (ba1 (ba1 (ba1 (ba1 (ba2 (ba2 (ba2 (ba2 h.2)))))))))))
theorem ne_5_0 {s0 : State} {b0 : Nat} (h : ab_S0 s0 b0) : ((Jvm.Cond.eq (Jvm.Term.elem (Jvm.Term.field (Jvm.Term.string "BergPatrolModel" (218 : Nat)) "java/lang/String" "value" "[B") (Jvm.Term.int (0 : Int32))) (Jvm.Term.int (101 : Int32))) : Cond).before #[Value.ref b0] s0 = true := (ba1 (ba1 (ba2 (ba1 (ba1 (ba1 (ba2 (ba2 (ba2 (ba2 h.2))))))))))
theorem ne_5_1 {s0 : State} {b0 : Nat} (h : ab_S0 s0 b0) : ((Jvm.Cond.eq (Jvm.Term.elem (Jvm.Term.field (Jvm.Term.string "BergPatrolModel" (218 : Nat)) "java/lang/String" "value" "[B") (Jvm.Term.int (1 : Int32))) (Jvm.Term.int (110 : Int32))) : Cond).before #[Value.ref b0] s0 = true := (ba2 (ba1 (ba2 (ba1 (ba1 (ba1 (ba2 (ba2 (ba2 (ba2 h.2))))))))))
theorem ne_5_2 {s0 : State} {b0 : Nat} (h : ab_S0 s0 b0) : ((Jvm.Cond.eq (Jvm.Term.elem (Jvm.Term.field (Jvm.Term.string "BergPatrolModel" (218 : Nat)) "java/lang/String" "value" "[B") (Jvm.Term.int (2 : Int32))) (Jvm.Term.int (100 : Int32))) : Cond).before #[Value.ref b0] s0 = true := (ba1 (ba2 (ba2 (ba1 (ba1 (ba1 (ba2 (ba2 (ba2 (ba2 h.2))))))))))
theorem nx_6 {s0 : State} {b0 : Nat} (h : ab_S0 s0 b0) : ((Jvm.Cond.exactly (Jvm.Term.string "BergPatrolModel" (232 : Nat)) "java/lang/String") : Cond).before #[Value.ref b0] s0 = true := (ba1 (ba1 (ba2 (ba1 (ba2 (ba1 (ba2 (ba2 (ba2 (ba2 h.2))))))))))
theorem nc_6 {s0 : State} {b0 : Nat} (h : ab_S0 s0 b0) : ((Jvm.Cond.eq (Jvm.Term.field (Jvm.Term.string "BergPatrolModel" (232 : Nat)) "java/lang/String" "coder" "B") (Jvm.Term.int (0 : Int32))) : Cond).before #[Value.ref b0] s0 = true := (ba2 (ba1 (ba2 (ba1 (ba2 (ba1 (ba2 (ba2 (ba2 (ba2 h.2))))))))))
theorem na_6 {s0 : State} {b0 : Nat} (h : ab_S0 s0 b0) : ((Jvm.Cond.arrayOf (Jvm.Term.field (Jvm.Term.string "BergPatrolModel" (232 : Nat)) "java/lang/String" "value" "[B") Jvm.ClassFile.FieldType.byte) : Cond).before #[Value.ref b0] s0 = true := (ba1 (ba2 (ba2 (ba1 (ba2 (ba1 (ba2 (ba2 (ba2 (ba2 h.2))))))))))
theorem nl_6 {s0 : State} {b0 : Nat} (h : ab_S0 s0 b0) : ((Jvm.Cond.eq (Jvm.Term.length (Jvm.Term.field (Jvm.Term.string "BergPatrolModel" (232 : Nat)) "java/lang/String" "value" "[B")) (Jvm.Term.int (5 : Int32))) : Cond).before #[Value.ref b0] s0 = true := (ba1 (ba2 (ba2 (ba2 (ba1 (ba2 (ba1 (ba2 (ba2 (ba2 (ba2 h.2)))))))))))
theorem ne_6_0 {s0 : State} {b0 : Nat} (h : ab_S0 s0 b0) : ((Jvm.Cond.eq (Jvm.Term.elem (Jvm.Term.field (Jvm.Term.string "BergPatrolModel" (232 : Nat)) "java/lang/String" "value" "[B") (Jvm.Term.int (0 : Int32))) (Jvm.Term.int (114 : Int32))) : Cond).before #[Value.ref b0] s0 = true := (ba2 (ba2 (ba2 (ba2 (ba1 (ba2 (ba1 (ba2 (ba2 (ba2 (ba2 h.2)))))))))))
theorem ne_6_1 {s0 : State} {b0 : Nat} (h : ab_S0 s0 b0) : ((Jvm.Cond.eq (Jvm.Term.elem (Jvm.Term.field (Jvm.Term.string "BergPatrolModel" (232 : Nat)) "java/lang/String" "value" "[B") (Jvm.Term.int (1 : Int32))) (Jvm.Term.int (105 : Int32))) : Cond).before #[Value.ref b0] s0 = true := (ba1 (ba1 (ba1 (ba2 (ba2 (ba1 (ba2 (ba2 (ba2 (ba2 h.2))))))))))
theorem ne_6_2 {s0 : State} {b0 : Nat} (h : ab_S0 s0 b0) : ((Jvm.Cond.eq (Jvm.Term.elem (Jvm.Term.field (Jvm.Term.string "BergPatrolModel" (232 : Nat)) "java/lang/String" "value" "[B") (Jvm.Term.int (2 : Int32))) (Jvm.Term.int (110 : Int32))) : Cond).before #[Value.ref b0] s0 = true := (ba2 (ba1 (ba1 (ba2 (ba2 (ba1 (ba2 (ba2 (ba2 (ba2 h.2))))))))))
theorem ne_6_3 {s0 : State} {b0 : Nat} (h : ab_S0 s0 b0) : ((Jvm.Cond.eq (Jvm.Term.elem (Jvm.Term.field (Jvm.Term.string "BergPatrolModel" (232 : Nat)) "java/lang/String" "value" "[B") (Jvm.Term.int (3 : Int32))) (Jvm.Term.int (103 : Int32))) : Cond).before #[Value.ref b0] s0 = true := (ba1 (ba2 (ba1 (ba2 (ba2 (ba1 (ba2 (ba2 (ba2 (ba2 h.2))))))))))
theorem ne_6_4 {s0 : State} {b0 : Nat} (h : ab_S0 s0 b0) : ((Jvm.Cond.eq (Jvm.Term.elem (Jvm.Term.field (Jvm.Term.string "BergPatrolModel" (232 : Nat)) "java/lang/String" "value" "[B") (Jvm.Term.int (4 : Int32))) (Jvm.Term.int (32 : Int32))) : Cond).before #[Value.ref b0] s0 = true := (ba1 (ba2 (ba2 (ba1 (ba2 (ba2 (ba1 (ba2 (ba2 (ba2 (ba2 h.2)))))))))))
theorem nx_7 {s0 : State} {b0 : Nat} (h : ab_S0 s0 b0) : ((Jvm.Cond.exactly (Jvm.Term.string "BergPatrolModel" (241 : Nat)) "java/lang/String") : Cond).before #[Value.ref b0] s0 = true := (ba1 (ba2 (ba1 (ba2 (ba1 (ba2 (ba2 (ba2 (ba2 (ba2 h.2))))))))))
theorem nc_7 {s0 : State} {b0 : Nat} (h : ab_S0 s0 b0) : ((Jvm.Cond.eq (Jvm.Term.field (Jvm.Term.string "BergPatrolModel" (241 : Nat)) "java/lang/String" "coder" "B") (Jvm.Term.int (0 : Int32))) : Cond).before #[Value.ref b0] s0 = true := (ba1 (ba2 (ba2 (ba1 (ba2 (ba1 (ba2 (ba2 (ba2 (ba2 (ba2 h.2)))))))))))
theorem na_7 {s0 : State} {b0 : Nat} (h : ab_S0 s0 b0) : ((Jvm.Cond.arrayOf (Jvm.Term.field (Jvm.Term.string "BergPatrolModel" (241 : Nat)) "java/lang/String" "value" "[B") Jvm.ClassFile.FieldType.byte) : Cond).before #[Value.ref b0] s0 = true := (ba2 (ba2 (ba2 (ba1 (ba2 (ba1 (ba2 (ba2 (ba2 (ba2 (ba2 h.2)))))))))))
theorem nl_7 {s0 : State} {b0 : Nat} (h : ab_S0 s0 b0) : ((Jvm.Cond.eq (Jvm.Term.length (Jvm.Term.field (Jvm.Term.string "BergPatrolModel" (241 : Nat)) "java/lang/String" "value" "[B")) (Jvm.Term.int (4 : Int32))) : Cond).before #[Value.ref b0] s0 = true := (ba1 (ba1 (ba2 (ba2 (ba1 (ba2 (ba2 (ba2 (ba2 (ba2 h.2))))))))))
theorem ne_7_0 {s0 : State} {b0 : Nat} (h : ab_S0 s0 b0) : ((Jvm.Cond.eq (Jvm.Term.elem (Jvm.Term.field (Jvm.Term.string "BergPatrolModel" (241 : Nat)) "java/lang/String" "value" "[B") (Jvm.Term.int (0 : Int32))) (Jvm.Term.int (32 : Int32))) : Cond).before #[Value.ref b0] s0 = true := (ba2 (ba1 (ba2 (ba2 (ba1 (ba2 (ba2 (ba2 (ba2 (ba2 h.2))))))))))
theorem ne_7_1 {s0 : State} {b0 : Nat} (h : ab_S0 s0 b0) : ((Jvm.Cond.eq (Jvm.Term.elem (Jvm.Term.field (Jvm.Term.string "BergPatrolModel" (241 : Nat)) "java/lang/String" "value" "[B") (Jvm.Term.int (1 : Int32))) (Jvm.Term.int (101 : Int32))) : Cond).before #[Value.ref b0] s0 = true := (ba1 (ba2 (ba2 (ba2 (ba1 (ba2 (ba2 (ba2 (ba2 (ba2 h.2))))))))))
theorem ne_7_2 {s0 : State} {b0 : Nat} (h : ab_S0 s0 b0) : ((Jvm.Cond.eq (Jvm.Term.elem (Jvm.Term.field (Jvm.Term.string "BergPatrolModel" (241 : Nat)) "java/lang/String" "value" "[B") (Jvm.Term.int (2 : Int32))) (Jvm.Term.int (110 : Int32))) : Cond).before #[Value.ref b0] s0 = true := (ba1 (ba2 (ba2 (ba2 (ba2 (ba1 (ba2 (ba2 (ba2 (ba2 (ba2 h.2)))))))))))
theorem ne_7_3 {s0 : State} {b0 : Nat} (h : ab_S0 s0 b0) : ((Jvm.Cond.eq (Jvm.Term.elem (Jvm.Term.field (Jvm.Term.string "BergPatrolModel" (241 : Nat)) "java/lang/String" "value" "[B") (Jvm.Term.int (3 : Int32))) (Jvm.Term.int (100 : Int32))) : Cond).before #[Value.ref b0] s0 = true := (ba2 (ba2 (ba2 (ba2 (ba2 (ba1 (ba2 (ba2 (ba2 (ba2 (ba2 h.2)))))))))))
/-- what is said of the text j at the law's start -/
def ab_so (s0 : State) (b0 j : Nat) : Prop := (Cond.exactly (ab_tm j) "java/lang/String").before #[Value.ref b0] s0 = true ∧ (Cond.eq (.field (ab_tm j) "java/lang/String" "coder" "B") (.int 0)).before #[Value.ref b0] s0 = true ∧ (Cond.arrayOf (.field (ab_tm j) "java/lang/String" "value" "[B") .byte).before #[Value.ref b0] s0 = true ∧ (Cond.eq (.length (.field (ab_tm j) "java/lang/String" "value" "[B")) (.int (Int32.ofNat (ab_tx j).length))).before #[Value.ref b0] s0 = true ∧ ∀ i, i < (ab_tx j).length → (Cond.eq (.elem (.field (ab_tm j) "java/lang/String" "value" "[B") (.int (Int32.ofNat i))) (.int (Int32.ofInt ((ab_tx j).getD i 0)))).before #[Value.ref b0] s0 = true
theorem ab_so_0 {s0 : State} {b0 : Nat} (h : ab_S0 s0 b0) : ab_so s0 b0 0 := by
  refine ⟨nx_0 h, nc_0 h, na_0 h, nl_0 h, fun i hi => ?_⟩
  match i, hi with
  | 0, _ => exact ne_0_0 h
  | 1, _ => exact ne_0_1 h
  | 2, _ => exact ne_0_2 h
  | 3, _ => exact ne_0_3 h
  | i + 4, hi => exact absurd hi (by show ¬ (i + 4 < 4); omega)
theorem ab_so_1 {s0 : State} {b0 : Nat} (h : ab_S0 s0 b0) : ab_so s0 b0 1 := by
  refine ⟨nx_1 h, nc_1 h, na_1 h, nl_1 h, fun i hi => ?_⟩
  match i, hi with
  | 0, _ => exact ne_1_0 h
  | 1, _ => exact ne_1_1 h
  | 2, _ => exact ne_1_2 h
  | i + 3, hi => exact absurd hi (by show ¬ (i + 3 < 3); omega)
theorem ab_so_2 {s0 : State} {b0 : Nat} (h : ab_S0 s0 b0) : ab_so s0 b0 2 := by
  refine ⟨nx_2 h, nc_2 h, na_2 h, nl_2 h, fun i hi => ?_⟩
  match i, hi with
  | 0, _ => exact ne_2_0 h
  | 1, _ => exact ne_2_1 h
  | 2, _ => exact ne_2_2 h
  | 3, _ => exact ne_2_3 h
  | 4, _ => exact ne_2_4 h
  | i + 5, hi => exact absurd hi (by show ¬ (i + 5 < 5); omega)
theorem ab_so_3 {s0 : State} {b0 : Nat} (h : ab_S0 s0 b0) : ab_so s0 b0 3 := by
  refine ⟨nx_3 h, nc_3 h, na_3 h, nl_3 h, fun i hi => ?_⟩
  match i, hi with
  | 0, _ => exact ne_3_0 h
  | 1, _ => exact ne_3_1 h
  | 2, _ => exact ne_3_2 h
  | 3, _ => exact ne_3_3 h
  | i + 4, hi => exact absurd hi (by show ¬ (i + 4 < 4); omega)
theorem ab_so_4 {s0 : State} {b0 : Nat} (h : ab_S0 s0 b0) : ab_so s0 b0 4 := by
  refine ⟨nx_4 h, nc_4 h, na_4 h, nl_4 h, fun i hi => ?_⟩
  match i, hi with
  | 0, _ => exact ne_4_0 h
  | 1, _ => exact ne_4_1 h
  | 2, _ => exact ne_4_2 h
  | 3, _ => exact ne_4_3 h
  | i + 4, hi => exact absurd hi (by show ¬ (i + 4 < 4); omega)
theorem ab_so_5 {s0 : State} {b0 : Nat} (h : ab_S0 s0 b0) : ab_so s0 b0 5 := by
  refine ⟨nx_5 h, nc_5 h, na_5 h, nl_5 h, fun i hi => ?_⟩
  match i, hi with
  | 0, _ => exact ne_5_0 h
  | 1, _ => exact ne_5_1 h
  | 2, _ => exact ne_5_2 h
  | i + 3, hi => exact absurd hi (by show ¬ (i + 3 < 3); omega)
theorem ab_so_6 {s0 : State} {b0 : Nat} (h : ab_S0 s0 b0) : ab_so s0 b0 6 := by
  refine ⟨nx_6 h, nc_6 h, na_6 h, nl_6 h, fun i hi => ?_⟩
  match i, hi with
  | 0, _ => exact ne_6_0 h
  | 1, _ => exact ne_6_1 h
  | 2, _ => exact ne_6_2 h
  | 3, _ => exact ne_6_3 h
  | 4, _ => exact ne_6_4 h
  | i + 5, hi => exact absurd hi (by show ¬ (i + 5 < 5); omega)
theorem ab_so_7 {s0 : State} {b0 : Nat} (h : ab_S0 s0 b0) : ab_so s0 b0 7 := by
  refine ⟨nx_7 h, nc_7 h, na_7 h, nl_7 h, fun i hi => ?_⟩
  match i, hi with
  | 0, _ => exact ne_7_0 h
  | 1, _ => exact ne_7_1 h
  | 2, _ => exact ne_7_2 h
  | 3, _ => exact ne_7_3 h
  | i + 4, hi => exact absurd hi (by show ¬ (i + 4 < 4); omega)
theorem ab_soA {s0 : State} {b0 : Nat} (h : ab_S0 s0 b0) : ∀ j, j < 8 → ab_so s0 b0 j
  | 0, _ => ab_so_0 h
  | 1, _ => ab_so_1 h
  | 2, _ => ab_so_2 h
  | 3, _ => ab_so_3 h
  | 4, _ => ab_so_4 h
  | 5, _ => ab_so_5 h
  | 6, _ => ab_so_6 h
  | 7, _ => ab_so_7 h
  | j + 8, hj => absurd hj (by omega)
/-- what may be read of an old thing at any time -/
theorem ab_oT {l : Launch} {ad : Nat → Nat} {Am : Nat → Prop} {s s0 : State} {b0 : Nat} {ty : FieldType} {t N : Nat} {f : Nat → Value} (hW : s0.WarmedH s.vm) (h4 : ∀ q : Nat, q < s0.heap.size → s.heap[q]? = s0.heap[q]?) (h5 : ∀ q, Am q → s0.heap.size ≤ q) (h : va_T ty t N f (fun q => s0.heap.size ≤ q) s0 s0.heap) : va_T ty t N f Am s s.heap := ((va_T.moved hW.alike h).kept (fun a ha _ => h4 a ha)).narrow h5
theorem ab_oF {ad : Nat → Nat} {Am : Nat → Prop} {s s0 : State} {o n d : String} {v : Value} {t : Nat} (hW : s0.WarmedH s.vm) (h4 : ∀ q : Nat, q < s0.heap.size → s.heap[q]? = s0.heap[q]?) (h5 : ∀ q, Am q → s0.heap.size ≤ q) (h : va_OF o n d v t (fun q => s0.heap.size ≤ q) s0 s0.heap) : va_OF o n d v t Am s s.heap := ((va_OF.moved hW.alike h).kept (fun a ha _ => h4 a ha)).narrow h5
theorem ab_oO {Am : Nat → Prop} {s s0 : State} {o : String} {t : Nat} (hW : s0.WarmedH s.vm) (h4 : ∀ q : Nat, q < s0.heap.size → s.heap[q]? = s0.heap[q]?) (h5 : ∀ q, Am q → s0.heap.size ≤ q) (h : va_O o t (fun q => s0.heap.size ≤ q) s0 s0.heap) : va_O o t Am s s.heap := ((va_O.moved hW.alike h).kept (fun a ha _ => h4 a ha)).narrow h5
theorem ab_oZ {Am : Nat → Prop} {s s0 : State} {C n d : String} {v : Value} (hW : s0.WarmedH s.vm) (h4 : ∀ q : Nat, q < s0.heap.size → s.heap[q]? = s0.heap[q]?) (h5 : ∀ q, Am q → s0.heap.size ≤ q) (h : va_Z C n d v (fun q => s0.heap.size ≤ q) s0 s0.heap) : va_Z C n d v Am s s.heap := ((va_Z.moved hW.alike h).kept (fun a ha _ => h4 a ha)).narrow h5
theorem ab_hA {s0 : State} : ∀ a : Nat, a < s0.heap.size → ¬ s0.heap.size ≤ a := fun a h => Nat.not_le.mpr h
theorem ab_str {l : Launch} {ad : Nat → Nat} {Am : Nat → Prop} {s : State} (hZ : ab_Z l ad Am s s.heap) {j : Nat} (hj : j < 8) : va_O "java/lang/String" (ad (1000000 + j)) Am s s.heap ∧ va_OF "java/lang/String" "coder" "B" (.int 0) (ad (1000000 + j)) Am s s.heap ∧ va_OF "java/lang/String" "value" "[B" (.ref (ad (1000100 + j))) (ad (1000000 + j)) Am s s.heap ∧ va_T .byte (ad (1000100 + j)) (ab_tx j).length (fun i => .int (Int32.ofInt ((ab_tx j).getD i 0))) Am s s.heap := by
  obtain ⟨-, s0, b0, h1, hc, hW, h3, h4, h5⟩ := hZ
  obtain ⟨x1, x2, x3, x4, x5⟩ := ab_soA h1 j hj
  have c1 := hc.1 j (by omega)
  have c2 := hc.2.1 j hj
  obtain ⟨a, c, cA, kA, q1, q2, q3, q4, q5, q6, -⟩ := Cond.exactly_spec x1
  cases Option.some.inj (q1.symm.trans c1)
  have hN : (ab_tx j).length < 2 ^ 31 := by
    match j, hj with
    | 0, _ => decide
    | 1, _ => decide
    | 2, _ => decide
    | 3, _ => decide
    | 4, _ => decide
    | 5, _ => decide
    | 6, _ => decide
    | 7, _ => decide
    | j + 8, hj => omega
  obtain ⟨t, ht, hT⟩ := va_Tof (f := fun i => .int (Int32.ofInt ((ab_tx j).getD i 0))) (A := fun q => s0.heap.size ≤ q) hN x3 (va_eqt x4) (fun i hi => va_eqt (x5 i hi)) ab_hA
  cases Option.some.inj (ht.symm.trans c2)
  exact ⟨ab_oO hW h4 h5 ⟨cA, q3, q5, by rw [q6]; exact q2, ab_hA _ (Array.getElem?_eq_some_iff.mp q3).1⟩, ab_oF (ad := ad) hW h4 h5 (vk_OFof q1 (va_eqt x2) ab_hA), ab_oF (ad := ad) hW h4 h5 (vk_OFof q1 c2 ab_hA), ab_oT (l := l) (ad := ad) (b0 := b0) hW h4 h5 hT⟩
theorem ab_ref {l : Launch} {ad : Nat → Nat} {Am : Nat → Prop} {s : State} (hZ : ab_Z l ad Am s s.heap) {j : Nat} (hj : j < 20) {own tx : String} {k : Nat} (htm : ab_tm j = .string own k) (hw : Cond.stringRef own k tx ∈ lw_tbl) : vk_R own k tx (ad (1000000 + j)) s := by
  obtain ⟨-, s0, b0, h1, hc, hW, h3, h4, h5⟩ := hZ
  have c1 := hc.1 j hj
  rw [htm] at c1
  exact vk_R.warm hW (vk_R.of (h1.1 _ hw) c1)
theorem lw_t1 {w : Cond} (h : w ∈ tables_1_1) : w ∈ lw_tbl := List.mem_append_right _ (List.mem_append_left _ h)
theorem lw_t2 {w : Cond} (h : w ∈ tables_1_2) : w ∈ lw_tbl := List.mem_append_right _ (List.mem_append_right _ (List.mem_append_left _ h))
theorem lw_t3 {w : Cond} (h : w ∈ tables_1_3) : w ∈ lw_tbl := List.mem_append_right _ (List.mem_append_right _ (List.mem_append_right _ (List.mem_append_left _ h)))
theorem lw_t4 {w : Cond} (h : w ∈ tables_1_4) : w ∈ lw_tbl := List.mem_append_right _ (List.mem_append_right _ (List.mem_append_right _ (List.mem_append_right _ (List.mem_append_left _ h))))
theorem lw_t5 {w : Cond} (h : w ∈ tables_1_5) : w ∈ lw_tbl := List.mem_append_right _ (List.mem_append_right _ (List.mem_append_right _ (List.mem_append_right _ (List.mem_append_right _ (List.mem_append_left _ h)))))
theorem lw_t6 {w : Cond} (h : w ∈ tables_1_6) : w ∈ lw_tbl := List.mem_append_right _ (List.mem_append_right _ (List.mem_append_right _ (List.mem_append_right _ (List.mem_append_right _ (List.mem_append_right _ h)))))
theorem lK {S : ab_St} {i : Nat} (h : 1000000 ≤ i) : ab_live S (aR i) := Or.inr h
theorem ab_lw {w : Cond} (h : w ∈ tables_1) : w ∈ lw_tbl := List.mem_append_right _ h
section
variable {E : ab_E} {cc : ByteArray} {nL : Nat} {y : MethodName} {rm : Room} {k n : Nat} {S : ab_St} {F : ab_Fn} {A : ab_An} {pc : Nat} {lv : List (Option ab_V)} {st : List ab_V}
theorem j_ldcS (C : ab_C E cc nL y rm) {index : Nat} {tx : String} (j : Nat) (hj : j < 20) (htm : ab_tm j = .string y.cls index) (hw : Cond.stringRef y.cls index tx ∈ lw_tbl) (d : decode cc pc = .ok (.ldc index, 2)) (h : ab_J E nL k n S F A (pc + 2) lv (aR (1000000 + j) :: st)) : ab_J E nL k n S F A pc lv st := by
  obtain ⟨p, l, e, R, s, m, args, below, meth, c, Q, K, Am, ad0, S0⟩ := E
  obtain ⟨hx, hb, hml, hown, hnm, hts, hK, hA, hlk, hZ, hR⟩ := C
  intro ad H locs ls g1 g2 g3 g4 g5 g6 g7 g8
  have q := h ad H locs ls g1 g2 g3 g4 g5 g6 g7 g8
  have e := ab_ref hZ hj htm hw
  rw [← g1.2 _ (by omega)] at e
  exact va_ldcS hx hb hown e d q
/-- a text's field -/
theorem j_strF (C : ab_C E cc nL y rm) {index : Nat} {nm ds : String} (v : ab_V) (j : Nat) (hj : j < 8) (hv : (nm = "coder" ∧ ds = "B" ∧ v = aI 0) ∨ (nm = "value" ∧ ds = "[B" ∧ v = aR (1000100 + j))) (hw : Cond.fieldLink y.cls index "java/lang/String" nm ds ∈ ab_tb) (d : decode cc pc = .ok (.getfield index, 3)) (h : ab_J E nL k n S F A (pc + 3) lv (v :: st)) : ab_J E nL k n S F A pc lv (aR (1000000 + j) :: st) := by
  obtain ⟨p, l, e, R, s, m, args, below, meth, c, Q, K, Am, ad0, S0⟩ := E
  obtain ⟨hx, hb, hml, hown, hnm, hts, hK, hA, hlk, hZ, hR⟩ := C
  intro ad H locs ls g1 g2 g3 g4 g5 g6 g7 g8
  have q := h ad H locs ls g1 g2 g3 g4 g5 g6 g7 g8
  have e := ab_str hZ hj
  rw [← g1.2 _ (show 1000000 ≤ 1000000 + j by omega), ← g1.2 _ (show 1000000 ≤ 1000100 + j by omega)] at e
  rcases hv with ⟨rfl, rfl, rfl⟩ | ⟨rfl, rfl, rfl⟩
  · exact vk_getf hx hb e.2.1 g8 hown (hts _ hw) (fun _ h => h) d q
  · exact vk_getf hx hb e.2.2.1 g8 hown (hts _ hw) (fun _ h => h) d q
theorem j_strB (C : ab_C E cc nL y rm) (j : Nat) (hj : j < 8) {i : Int} (h0 : 0 ≤ i) (h1 : i < (ab_tx j).length) (d : decode cc pc = .ok (.baload, 1)) (h : ab_J E nL k n S F A (pc + 1) lv (aI ((ab_tx j).getD i.toNat 0) :: st)) : ab_J E nL k n S F A pc lv (aI i :: aR (1000100 + j) :: st) := by
  obtain ⟨p, l, e, R, s, m, args, below, meth, c, Q, K, Am, ad0, S0⟩ := E
  obtain ⟨hx, hb, hml, hown, hnm, hts, hK, hA, hlk, hZ, hR⟩ := C
  intro ad H locs ls g1 g2 g3 g4 g5 g6 g7 g8
  have q := h ad H locs ls g1 g2 g3 g4 g5 g6 g7 g8
  have e := ab_str hZ hj
  rw [← g1.2 _ (show 1000000 ≤ 1000100 + j by omega)] at e
  have hl : (ab_tx j).length < 2147483648 := by
    match j, hj with
    | 0, _ => decide
    | 1, _ => decide
    | 2, _ => decide
    | 3, _ => decide
    | 4, _ => decide
    | 5, _ => decide
    | 6, _ => decide
    | 7, _ => decide
    | j + 8, hj => omega
  refine va_tb hx hb e.2.2.2 g8 (ab_in h0 (by omega) (by omega)) ?_ d q
  rw [ab_clamp h0 (by omega)]; rfl
theorem j_strN (C : ab_C E cc nL y rm) (j : Nat) (hj : j < 8) (d : decode cc pc = .ok (.arraylength, 1)) (h : ab_J E nL k n S F A (pc + 1) lv (aI ((ab_tx j).length : Nat) :: st)) : ab_J E nL k n S F A pc lv (aR (1000100 + j) :: st) := by
  obtain ⟨p, l, e, R, s, m, args, below, meth, c, Q, K, Am, ad0, S0⟩ := E
  obtain ⟨hx, hb, hml, hown, hnm, hts, hK, hA, hlk, hZ, hR⟩ := C
  intro ad H locs ls g1 g2 g3 g4 g5 g6 g7 g8
  have q := h ad H locs ls g1 g2 g3 g4 g5 g6 g7 g8
  have e := ab_str hZ hj
  rw [← g1.2 _ (show 1000000 ≤ 1000100 + j by omega)] at e
  exact va_tlen hx hb e.2.2.2 g8 rfl d q
/-- a static that holds a number -/
theorem j_getsI (C : ab_C E cc nL y rm) {index : Nat} {ref nm ds : String} {z : Int} (hs : ∀ s0 b0, ab_S0 s0 b0 → (Term.static ref nm ds).eval #[Value.ref b0] s0 none [] s0 = some (.int (Int32.ofInt z))) (hl : Cond.laysStatic ref nm ds ∈ lw_tbl) (hi : Cond.initialized ref ∈ lw_tbl) (hw : Cond.fieldLink y.cls index ref nm ds ∈ ab_tb) (d : decode cc pc = .ok (.getstatic index, 3)) (h : ab_J E nL k n S F A (pc + 3) lv (aI z :: st)) : ab_J E nL k n S F A pc lv st := by
  obtain ⟨p, l, e, R, s, m, args, below, meth, c, Q, K, Am, ad0, S0⟩ := E
  obtain ⟨hx, hb, hml, hown, hnm, hts, hK, hA, hlk, hZ, hR⟩ := C
  intro ad H locs ls g1 g2 g3 g4 g5 g6 g7 g8
  have q := h ad H locs ls g1 g2 g3 g4 g5 g6 g7 g8
  obtain ⟨-, s0, b0, h1, hc, hW, h3, h4, h5⟩ := hZ
  exact va_gets hx hb (ab_oZ hW h4 h5 (va_Zof (h1.1 _ hl) (h1.1 _ hi) (hs s0 b0 h1) ab_hA)) g8 hown (hts _ hw) (fun _ h => h) d q
/-- a static of which nobody asks what it holds -/
theorem j_getsQ (C : ab_C E cc nL y rm) {index : Nat} {ref nm ds : String} (hs : ∀ s0 b0, ab_S0 s0 b0 → (Cond.isRef (.static ref nm ds)).before #[Value.ref b0] s0 = true) (hl : Cond.laysStatic ref nm ds ∈ lw_tbl) (hi : Cond.initialized ref ∈ lw_tbl) (hw : Cond.fieldLink y.cls index ref nm ds ∈ ab_tb) (d : decode cc pc = .ok (.getstatic index, 3)) (h : ∀ v : Value, (v = .null ∨ ∃ t, v = .ref t) → ab_J E nL k n S F A (pc + 3) lv (aX v :: st)) : ab_J E nL k n S F A pc lv st := by
  obtain ⟨p, l, e, R, s, m, args, below, meth, c, Q, K, Am, ad0, S0⟩ := E
  obtain ⟨hx, hb, hml, hown, hnm, hts, hK, hA, hlk, hZ, hR⟩ := C
  intro ad H locs ls g1 g2 g3 g4 g5 g6 g7 g8
  obtain ⟨-, s0, b0, h1, hc, hW, h3, h4, h5⟩ := hZ
  rcases va_Zqof (A := fun q => s0.heap.size ≤ q) (h1.1 _ hl) (h1.1 _ hi) (hs s0 b0 h1) ab_hA with hq | ⟨t, hq⟩
  · exact va_gets hx hb (ab_oZ hW h4 h5 hq) g8 hown (hts _ hw) (fun _ h => h) d (h .null (Or.inl rfl) ad H locs ls g1 g2 g3 g4 g5 g6 g7 g8)
  · exact va_gets hx hb (ab_oZ hW h4 h5 hq) g8 hown (hts _ hw) (fun _ h => h) d (h (.ref t) (Or.inr ⟨t, rfl⟩) ad H locs ls g1 g2 g3 g4 g5 g6 g7 g8)
theorem j_null (C : ab_C E cc nL y rm) (d : decode cc pc = .ok (.aconst_null, 1)) (h : ab_J E nL k n S F A (pc + 1) lv (aX .null :: st)) : ab_J E nL k n S F A pc lv st := by
  obtain ⟨p, l, e, R, s, m, args, below, meth, c, Q, K, Am, ad0, S0⟩ := E
  obtain ⟨hx, hb, -⟩ := C
  intro ad H locs ls g1 g2 g3 g4 g5 g6 g7 g8
  exact lv_null hx hb d (h ad H locs ls g1 g2 g3 g4 g5 g6 g7 g8)
/-- a static that holds an old row, by its name -/
theorem ab_staZ {l : Launch} {ad : Nat → Nat} {Am : Nat → Prop} {s : State} (hZ : ab_Z l ad Am s s.heap) {j : Nat} (hj : j < 3) {ref nm ds : String} (ht : ab_sta j = .static ref nm ds) (hl : Cond.laysStatic ref nm ds ∈ lw_tbl) (hi : Cond.initialized ref ∈ lw_tbl) : va_Z ref nm ds (.ref (ad (1000200 + j))) Am s s.heap := by
  obtain ⟨-, s0, b0, h1, hc, hW, h3, h4, h5⟩ := hZ
  have e := hc.2.2 j (by omega)
  rw [ht] at e
  exact ab_oZ hW h4 h5 (va_Zof (h1.1 _ hl) (h1.1 _ hi) e ab_hA)
theorem j_getsR (C : ab_C E cc nL y rm) {index : Nat} {ref nm ds : String} (j : Nat) (hj : j < 3) (ht : ab_sta j = .static ref nm ds) (hl : Cond.laysStatic ref nm ds ∈ lw_tbl) (hi : Cond.initialized ref ∈ lw_tbl) (hw : Cond.fieldLink y.cls index ref nm ds ∈ ab_tb) (d : decode cc pc = .ok (.getstatic index, 3)) (h : ab_J E nL k n S F A (pc + 3) lv (aR (1000200 + j) :: st)) : ab_J E nL k n S F A pc lv st := by
  obtain ⟨p, l, e, R, s, m, args, below, meth, c, Q, K, Am, ad0, S0⟩ := E
  obtain ⟨hx, hb, hml, hown, hnm, hts, hK, hA, hlk, hZ, hR⟩ := C
  intro ad H locs ls g1 g2 g3 g4 g5 g6 g7 g8
  have q := h ad H locs ls g1 g2 g3 g4 g5 g6 g7 g8
  have e := ab_staZ hZ hj ht hl hi
  rw [← g1.2 _ (by omega)] at e
  exact va_gets hx hb e g8 hown (hts _ hw) (fun _ h => h) d q
theorem j_getsN (C : ab_C E cc nL y rm) {index : Nat} {ref nm ds host : String} (j : Nat) (hj : j < 3) (ht : ab_sta j = .static ref nm ds) (hl : Cond.laysStatic ref nm ds ∈ lw_tbl) (hi : Cond.initialized ref ∈ lw_tbl) (hw : Cond.fieldLinkNest y.cls index ref nm ds host ∈ lw_tbl) (d : decode cc pc = .ok (.getstatic index, 3)) (h : ab_J E nL k n S F A (pc + 3) lv (aR (1000200 + j) :: st)) : ab_J E nL k n S F A pc lv st := by
  obtain ⟨p, l, e, R, s, m, args, below, meth, c, Q, K, Am, ad0, S0⟩ := E
  obtain ⟨hx, hb, hml, hown, hnm, hts, hK, hA, hlk, hZ, hR⟩ := C
  intro ad H locs ls g1 g2 g3 g4 g5 g6 g7 g8
  have q := h ad H locs ls g1 g2 g3 g4 g5 g6 g7 g8
  have e := ab_staZ hZ hj ht hl hi
  rw [← g1.2 _ (by omega)] at e
  obtain ⟨-, s0, b0, h1, hc, hW, h3, h4, h5⟩ := hZ
  exact va_getsN hx hb e g8 hown (va_Nw.use rfl (va_Nw.warmF hW (va_Nw.of rfl (h1.1 _ hw)))) (fun _ h => h) d q
theorem ra_0 {s0 : State} {b0 : Nat} (h : ab_S0 s0 b0) : ((Jvm.Cond.arrayOf (Jvm.Term.static "BergPatrol" "ROUND_X" "[I") Jvm.ClassFile.FieldType.int) : Cond).before #[Value.ref b0] s0 = true := (ba2 (ba2 (ba2 (ba2 (ba1 (ba1 (ba1 (ba1 (ba1 (ba1 (ba2 h.2)))))))))))
theorem rl_0 {s0 : State} {b0 : Nat} (h : ab_S0 s0 b0) : ((Jvm.Cond.eq (Jvm.Term.length (Jvm.Term.static "BergPatrol" "ROUND_X" "[I")) (Jvm.Term.int (8 : Int32))) : Cond).before #[Value.ref b0] s0 = true := (ba1 (ba1 (ba1 (ba2 (ba1 (ba1 (ba1 (ba1 (ba1 (ba2 h.2))))))))))
theorem re_0_0 {s0 : State} {b0 : Nat} (h : ab_S0 s0 b0) : ((Jvm.Cond.eq (Jvm.Term.elem (Jvm.Term.static "BergPatrol" "ROUND_X" "[I") (Jvm.Term.int (0 : Int32))) (Jvm.Term.int (1 : Int32))) : Cond).before #[Value.ref b0] s0 = true := (ba2 (ba1 (ba1 (ba2 (ba1 (ba1 (ba1 (ba1 (ba1 (ba2 h.2))))))))))
theorem re_0_1 {s0 : State} {b0 : Nat} (h : ab_S0 s0 b0) : ((Jvm.Cond.eq (Jvm.Term.elem (Jvm.Term.static "BergPatrol" "ROUND_X" "[I") (Jvm.Term.int (1 : Int32))) (Jvm.Term.int (0 : Int32))) : Cond).before #[Value.ref b0] s0 = true := (ba1 (ba2 (ba1 (ba2 (ba1 (ba1 (ba1 (ba1 (ba1 (ba2 h.2))))))))))
theorem re_0_2 {s0 : State} {b0 : Nat} (h : ab_S0 s0 b0) : ((Jvm.Cond.eq (Jvm.Term.elem (Jvm.Term.static "BergPatrol" "ROUND_X" "[I") (Jvm.Term.int (2 : Int32))) (Jvm.Term.int (-1 : Int32))) : Cond).before #[Value.ref b0] s0 = true := (ba1 (ba2 (ba2 (ba1 (ba2 (ba1 (ba1 (ba1 (ba1 (ba1 (ba2 h.2)))))))))))
theorem re_0_3 {s0 : State} {b0 : Nat} (h : ab_S0 s0 b0) : ((Jvm.Cond.eq (Jvm.Term.elem (Jvm.Term.static "BergPatrol" "ROUND_X" "[I") (Jvm.Term.int (3 : Int32))) (Jvm.Term.int (0 : Int32))) : Cond).before #[Value.ref b0] s0 = true := (ba2 (ba2 (ba2 (ba1 (ba2 (ba1 (ba1 (ba1 (ba1 (ba1 (ba2 h.2)))))))))))
theorem re_0_4 {s0 : State} {b0 : Nat} (h : ab_S0 s0 b0) : ((Jvm.Cond.eq (Jvm.Term.elem (Jvm.Term.static "BergPatrol" "ROUND_X" "[I") (Jvm.Term.int (4 : Int32))) (Jvm.Term.int (1 : Int32))) : Cond).before #[Value.ref b0] s0 = true := (ba1 (ba1 (ba2 (ba2 (ba1 (ba1 (ba1 (ba1 (ba1 (ba2 h.2))))))))))
theorem re_0_5 {s0 : State} {b0 : Nat} (h : ab_S0 s0 b0) : ((Jvm.Cond.eq (Jvm.Term.elem (Jvm.Term.static "BergPatrol" "ROUND_X" "[I") (Jvm.Term.int (5 : Int32))) (Jvm.Term.int (-1 : Int32))) : Cond).before #[Value.ref b0] s0 = true := (ba2 (ba1 (ba2 (ba2 (ba1 (ba1 (ba1 (ba1 (ba1 (ba2 h.2))))))))))
theorem re_0_6 {s0 : State} {b0 : Nat} (h : ab_S0 s0 b0) : ((Jvm.Cond.eq (Jvm.Term.elem (Jvm.Term.static "BergPatrol" "ROUND_X" "[I") (Jvm.Term.int (6 : Int32))) (Jvm.Term.int (-1 : Int32))) : Cond).before #[Value.ref b0] s0 = true := (ba1 (ba2 (ba2 (ba2 (ba1 (ba1 (ba1 (ba1 (ba1 (ba2 h.2))))))))))
theorem re_0_7 {s0 : State} {b0 : Nat} (h : ab_S0 s0 b0) : ((Jvm.Cond.eq (Jvm.Term.elem (Jvm.Term.static "BergPatrol" "ROUND_X" "[I") (Jvm.Term.int (7 : Int32))) (Jvm.Term.int (1 : Int32))) : Cond).before #[Value.ref b0] s0 = true := (ba1 (ba2 (ba2 (ba2 (ba2 (ba1 (ba1 (ba1 (ba1 (ba1 (ba2 h.2)))))))))))
theorem ra_1 {s0 : State} {b0 : Nat} (h : ab_S0 s0 b0) : ((Jvm.Cond.arrayOf (Jvm.Term.static "BergPatrol" "ROUND_Y" "[I") Jvm.ClassFile.FieldType.int) : Cond).before #[Value.ref b0] s0 = true := (ba1 (ba1 (ba1 (ba1 (ba2 (ba1 (ba1 (ba1 (ba1 (ba2 h.2))))))))))
theorem rl_1 {s0 : State} {b0 : Nat} (h : ab_S0 s0 b0) : ((Jvm.Cond.eq (Jvm.Term.length (Jvm.Term.static "BergPatrol" "ROUND_Y" "[I")) (Jvm.Term.int (8 : Int32))) : Cond).before #[Value.ref b0] s0 = true := (ba2 (ba1 (ba1 (ba1 (ba2 (ba1 (ba1 (ba1 (ba1 (ba2 h.2))))))))))
theorem re_1_0 {s0 : State} {b0 : Nat} (h : ab_S0 s0 b0) : ((Jvm.Cond.eq (Jvm.Term.elem (Jvm.Term.static "BergPatrol" "ROUND_Y" "[I") (Jvm.Term.int (0 : Int32))) (Jvm.Term.int (0 : Int32))) : Cond).before #[Value.ref b0] s0 = true := (ba1 (ba2 (ba1 (ba1 (ba2 (ba1 (ba1 (ba1 (ba1 (ba2 h.2))))))))))
theorem re_1_1 {s0 : State} {b0 : Nat} (h : ab_S0 s0 b0) : ((Jvm.Cond.eq (Jvm.Term.elem (Jvm.Term.static "BergPatrol" "ROUND_Y" "[I") (Jvm.Term.int (1 : Int32))) (Jvm.Term.int (1 : Int32))) : Cond).before #[Value.ref b0] s0 = true := (ba1 (ba2 (ba2 (ba1 (ba1 (ba2 (ba1 (ba1 (ba1 (ba1 (ba2 h.2)))))))))))
theorem re_1_2 {s0 : State} {b0 : Nat} (h : ab_S0 s0 b0) : ((Jvm.Cond.eq (Jvm.Term.elem (Jvm.Term.static "BergPatrol" "ROUND_Y" "[I") (Jvm.Term.int (2 : Int32))) (Jvm.Term.int (0 : Int32))) : Cond).before #[Value.ref b0] s0 = true := (ba2 (ba2 (ba2 (ba1 (ba1 (ba2 (ba1 (ba1 (ba1 (ba1 (ba2 h.2)))))))))))
theorem re_1_3 {s0 : State} {b0 : Nat} (h : ab_S0 s0 b0) : ((Jvm.Cond.eq (Jvm.Term.elem (Jvm.Term.static "BergPatrol" "ROUND_Y" "[I") (Jvm.Term.int (3 : Int32))) (Jvm.Term.int (-1 : Int32))) : Cond).before #[Value.ref b0] s0 = true := (ba1 (ba1 (ba2 (ba1 (ba2 (ba1 (ba1 (ba1 (ba1 (ba2 h.2))))))))))
theorem re_1_4 {s0 : State} {b0 : Nat} (h : ab_S0 s0 b0) : ((Jvm.Cond.eq (Jvm.Term.elem (Jvm.Term.static "BergPatrol" "ROUND_Y" "[I") (Jvm.Term.int (4 : Int32))) (Jvm.Term.int (1 : Int32))) : Cond).before #[Value.ref b0] s0 = true := (ba2 (ba1 (ba2 (ba1 (ba2 (ba1 (ba1 (ba1 (ba1 (ba2 h.2))))))))))
theorem re_1_5 {s0 : State} {b0 : Nat} (h : ab_S0 s0 b0) : ((Jvm.Cond.eq (Jvm.Term.elem (Jvm.Term.static "BergPatrol" "ROUND_Y" "[I") (Jvm.Term.int (5 : Int32))) (Jvm.Term.int (1 : Int32))) : Cond).before #[Value.ref b0] s0 = true := (ba1 (ba2 (ba2 (ba1 (ba2 (ba1 (ba1 (ba1 (ba1 (ba2 h.2))))))))))
theorem re_1_6 {s0 : State} {b0 : Nat} (h : ab_S0 s0 b0) : ((Jvm.Cond.eq (Jvm.Term.elem (Jvm.Term.static "BergPatrol" "ROUND_Y" "[I") (Jvm.Term.int (6 : Int32))) (Jvm.Term.int (-1 : Int32))) : Cond).before #[Value.ref b0] s0 = true := (ba1 (ba2 (ba2 (ba2 (ba1 (ba2 (ba1 (ba1 (ba1 (ba1 (ba2 h.2)))))))))))
theorem re_1_7 {s0 : State} {b0 : Nat} (h : ab_S0 s0 b0) : ((Jvm.Cond.eq (Jvm.Term.elem (Jvm.Term.static "BergPatrol" "ROUND_Y" "[I") (Jvm.Term.int (7 : Int32))) (Jvm.Term.int (-1 : Int32))) : Cond).before #[Value.ref b0] s0 = true := (ba2 (ba2 (ba2 (ba2 (ba1 (ba2 (ba1 (ba1 (ba1 (ba1 (ba2 h.2)))))))))))
/-- the rows of the steps round a square -/
def ab_rd (j : Nat) : List Int := match j with
  | 0 => [1, 0, -1, 0, 1, -1, -1, 1]
  | _ => [0, 1, 0, -1, 1, 1, -1, -1]
def ab_ro (s0 : State) (b0 j : Nat) : Prop := (Cond.arrayOf (ab_sta j) .int).before #[Value.ref b0] s0 = true ∧ (Cond.eq (.length (ab_sta j)) (.int (Int32.ofNat 8))).before #[Value.ref b0] s0 = true ∧ ∀ i, i < 8 → (Cond.eq (.elem (ab_sta j) (.int (Int32.ofNat i))) (.int (Int32.ofInt ((ab_rd j).getD i 0)))).before #[Value.ref b0] s0 = true
theorem ab_ro_0 {s0 : State} {b0 : Nat} (h : ab_S0 s0 b0) : ab_ro s0 b0 0 := by
  refine ⟨ra_0 h, rl_0 h, fun i hi => ?_⟩
  match i, hi with
  | 0, _ => exact re_0_0 h
  | 1, _ => exact re_0_1 h
  | 2, _ => exact re_0_2 h
  | 3, _ => exact re_0_3 h
  | 4, _ => exact re_0_4 h
  | 5, _ => exact re_0_5 h
  | 6, _ => exact re_0_6 h
  | 7, _ => exact re_0_7 h
  | i + 8, hi => omega
theorem ab_ro_1 {s0 : State} {b0 : Nat} (h : ab_S0 s0 b0) : ab_ro s0 b0 1 := by
  refine ⟨ra_1 h, rl_1 h, fun i hi => ?_⟩
  match i, hi with
  | 0, _ => exact re_1_0 h
  | 1, _ => exact re_1_1 h
  | 2, _ => exact re_1_2 h
  | 3, _ => exact re_1_3 h
  | 4, _ => exact re_1_4 h
  | 5, _ => exact re_1_5 h
  | 6, _ => exact re_1_6 h
  | 7, _ => exact re_1_7 h
  | i + 8, hi => omega
theorem ab_roA {s0 : State} {b0 : Nat} (h : ab_S0 s0 b0) : ∀ j, j < 2 → ab_ro s0 b0 j
  | 0, _ => ab_ro_0 h
  | 1, _ => ab_ro_1 h
  | j + 2, hj => absurd hj (by omega)
theorem j_rdI (C : ab_C E cc nL y rm) (j : Nat) (hj : j < 2) {i : Int} (h0 : 0 ≤ i) (h1 : i < 8) (d : decode cc pc = .ok (.iaload, 1)) (h : ab_J E nL k n S F A (pc + 1) lv (aI ((ab_rd j).getD i.toNat 0) :: st)) : ab_J E nL k n S F A pc lv (aI i :: aR (1000200 + j) :: st) := by
  obtain ⟨p, l, e, R, s, m, args, below, meth, c, Q, K, Am, ad0, S0⟩ := E
  obtain ⟨hx, hb, hml, hown, hnm, hts, hK, hA, hlk, hZ, hR⟩ := C
  intro ad H locs ls g1 g2 g3 g4 g5 g6 g7 g8
  have q := h ad H locs ls g1 g2 g3 g4 g5 g6 g7 g8
  obtain ⟨-, s0, b0, x1, hc, hW, h3, h4, h5⟩ := hZ
  obtain ⟨y1, y2, y3⟩ := ab_roA x1 j hj
  have c2 := hc.2.2 j (by omega)
  obtain ⟨t, ht, hT⟩ := va_Tof (f := fun i => .int (Int32.ofInt ((ab_rd j).getD i 0))) (A := fun q => s0.heap.size ≤ q) (by decide) y1 (va_eqt y2) (fun i hi => va_eqt (y3 i hi)) ab_hA
  cases Option.some.inj (ht.symm.trans c2)
  have e := ab_oT (l := l) (ad := ad) (b0 := b0) hW h4 h5 hT
  rw [← g1.2 _ (show 1000000 ≤ 1000200 + j by omega)] at e
  refine va_ti hx hb e g8 (ab_in h0 (by omega) (by decide)) ?_ d q
  rw [ab_clamp h0 (by omega)]; rfl
/-- a call on a text -/
theorem j_callT (C : ab_C E cc nL y rm) {index : Nat} (j : Nat) (hj : j < 8) {z : MethodName} {cz : ByteArray} {nz : Nat} {rz : Option FieldType} {rmz : Room} {mc ms np : Nat} {vs : List ab_V} {P : Option ab_V → ab_St → ab_Fn → ab_An → Prop} (cl : ab_Cl y.cls index z cz nz rz np) (hins : Cond.instanceMethod z ∈ ab_tb) (hsel : Cond.selects z.cls z z ∈ ab_tb)
    (hM : ∀ l, ab_Met l z cz nz rz rmz mc ms (aR (1000000 + j) :: vs) S F A P) (hcz : z.cls = "java/lang/String") (hnp : vs.length = np) (hrm : rmz.cells = mc ∧ rmz.slots = ms ∧ rmz.frames + 1 ≤ rm.frames ∧ 8 + (nz + 11) + rmz.locals ≤ rm.locals) (hroom : k + mc ≤ rm.cells ∧ n + ms ≤ rm.slots)
    (hcat : ∀ ad, ((st.map (ab_val ad)).map fun v => v.category).sum ≤ 8) (hst : ∀ v ∈ st, ab_live S v) (hlv : ∀ v, some v ∈ lv → ab_live S v) (d : decode cc pc = .ok (.invokevirtual index, 3))
    (h : ∀ v S' F' A', P v S' F' A' → ab_J E nL (k + mc) (n + ms) S' F' A' (pc + 3) lv (v.toList ++ st)) : ab_J E nL k n S F A pc lv (vs.reverse ++ aR (1000000 + j) :: st) := by
  obtain ⟨p, l, e, R, s, m, args, below, meth, c, Q, K, Am, ad0, S0⟩ := E
  obtain ⟨hx, hb, hml, hown, hnm, hts, hK, hA, hlk, hZ, hR⟩ := C
  intro ad H locs ls g1 g2 g3 g4 g5 g6 g7 g8
  subst hR
  have hAA := ab_A.mono (ad0 := ad0) (sz' := H.size) g7 hA g8.1
  refine ab_goOn (a := ((aR (1000000 + j) :: vs).map (ab_val ad)).toArray) (P := P) ?_ hA (fun ad' x => ab_stk x hst) (fun ad' x => ab_lvs x hlv g5) g1 g2 g3 g4 g7 g8 h
  have hb9 := ab_callB (R := R) (s := s) (args := args) hts cl hrm.1 hrm.2.1 hrm.2.2.1 hrm.2.2.2
  have e9 := (ab_str hZ hj).1
  rw [← g1.2 _ (show 1000000 ≤ 1000000 + j by omega)] at e9
  have hrec : ∃ cellB : Cell, H[ad (1000000 + j)]? = some cellB ∧ cellB.vm.isStatics = false ∧ s.vm.findClass z.cls = some cellB.cls := by
    obtain ⟨cell, q1, q2, q3, -⟩ := e9.kept g8.2.1
    exact ⟨cell, q1, q2, by rw [hcz]; exact q3⟩
  exact va_runV (As := vs.map (ab_val ad)) (rest := st.map (ab_val ad)) (Ts := ab_tb) (C := z.cls) ⟨hx, hb, hml, hown, hts⟩ (hM l K ad H.size) ⟨hb9, hts _ hins, hts _ hsel⟩
    ⟨ab_blind, hrec, fun U hU hW => ⟨rfl, by rw [hU], by rw [hU]; exact g6, va_K.moved hW.alike hK, by rw [hU]; exact hZ.to g1.2 g8 hW hAA⟩⟩ rfl (by rw [List.length_map]; exact hnp) g3 (by simp [F0, List.map_append, List.map_reverse]; rfl) (by show 2 * 0 + _ ≤ 8; have := hcat ad; omega) d hroom
/-- a private static of the nest's host -/
theorem j_callSN (C : ab_C E cc nL y rm) {index : Nat} {host : String} {z : MethodName} {cz : ByteArray} {nz : Nat} {rz : Option FieldType} {rmz : Room} {mc ms np : Nat} {vs : List ab_V} {P : Option ab_V → ab_St → ab_Fn → ab_An → Prop} (c1 : Cond.code z cz nz rz ∈ ab_tb) (c2 : Cond.methodLinkNest y.cls index z host ∈ lw_tbl) (c3 : Cond.initialized z.cls ∈ ab_tb) (c4 : z.cls ≠ "java/lang/invoke/MethodHandle" ∧ z.cls ≠ "java/lang/invoke/VarHandle") (c5 : (parseMethodDescriptor z.desc).map (fun d => d.parameters.length) = some np) (hsta : Cond.static z ∈ ab_tb)
    (hM : ∀ l, ab_Met l z cz nz rz rmz mc ms vs S F A P) (hnp : vs.length = np) (hrm : rmz.cells = mc ∧ rmz.slots = ms ∧ rmz.frames + 1 ≤ rm.frames ∧ 8 + (nz + 11) + rmz.locals ≤ rm.locals) (hroom : k + mc ≤ rm.cells ∧ n + ms ≤ rm.slots)
    (hcat : ∀ ad, ((st.map (ab_val ad)).map fun v => v.category).sum ≤ 8) (hst : ∀ v ∈ st, ab_live S v) (hlv : ∀ v, some v ∈ lv → ab_live S v) (d : decode cc pc = .ok (.invokestatic index, 3))
    (h : ∀ v S' F' A', P v S' F' A' → ab_J E nL (k + mc) (n + ms) S' F' A' (pc + 3) lv (v.toList ++ st)) : ab_J E nL k n S F A pc lv (vs.reverse ++ st) := by
  obtain ⟨p, l, e, R, s, m, args, below, meth, c, Q, K, Am, ad0, S0⟩ := E
  obtain ⟨hx, hb, hml, hown, hnm, hts, hK, hA, hlk, hZ, hR⟩ := C
  intro ad H locs ls g1 g2 g3 g4 g5 g6 g7 g8
  subst hR
  have hAA := ab_A.mono (ad0 := ad0) (sz' := H.size) g7 hA g8.1
  refine ab_goOn (a := (vs.map (ab_val ad)).toArray) (P := P) ?_ hA (fun ad' x => ab_stk x hst) (fun ad' x => ab_lvs x hlv g5) g1 g2 g3 g4 g7 g8 h
  have hnw : va_Nw (.methodLinkNest y.cls index z host) s := by
    obtain ⟨-, s0, b0, h1, hc, hW, -⟩ := hZ
    exact va_Nw.warmM hW (va_Nw.of rfl (h1.1 _ c2))
  have hb9 := va_cnB (R := R) (args := args) (s := s) (host := host) np hts (ab_goodIn (y := z) (cc := cz) (nL := nz) (ret := rz) c1) rfl hrm.1 hrm.2.1 hnw (hts _ c3) ⟨c4.1, c4.2, c5⟩ ⟨hrm.2.2.1, hrm.2.2.2⟩
  exact va_runSN (As := vs.map (ab_val ad)) (rest := st.map (ab_val ad)) (Ts := ab_tb) ⟨hx, hb, hml, hown, hts⟩ (hM l K ad H.size) ⟨hb9, hts _ hsta, trivial⟩
    ⟨ab_blind, fun U hU hW => ⟨rfl, by rw [hU], by rw [hU]; exact g6, va_K.moved hW.alike hK, by rw [hU]; exact hZ.to g1.2 g8 hW hAA⟩⟩ rfl (by rw [List.length_map]; exact hnp) g3 (by simp [F0, List.map_append, List.map_reverse]) (by show 2 * 0 + _ ≤ 8; have := hcat ad; omega) d hroom
end
theorem sx_COMPACT_STRINGS {s0 : State} {b0 : Nat} (h : ab_S0 s0 b0) : ((Jvm.Cond.eq (Jvm.Term.static "java/lang/String" "COMPACT_STRINGS" "Z") (Jvm.Term.int (1 : Int32))) : Cond).before #[Value.ref b0] s0 = true := (ba1 (ba1 (ba1 (ba2 (ba2 (ba1 (ba1 (ba1 (ba1 (ba2 h.2))))))))))
theorem rq_2 {s0 : State} {b0 : Nat} (h : ab_S0 s0 b0) : ((Jvm.Cond.arrayOf (Jvm.Term.static "java/util/ArrayList" "DEFAULTCAPACITY_EMPTY_ELEMENTDATA" "[Ljava/lang/Object;") (Jvm.ClassFile.FieldType.object "java/lang/Object")) : Cond).before #[Value.ref b0] s0 = true := (ba1 (ba2 (ba2 (ba1 (ba1 (ba1 (ba1 (ba1 (ba1 (ba1 (ba2 h.2)))))))))))
theorem rl_2 {s0 : State} {b0 : Nat} (h : ab_S0 s0 b0) : ((Jvm.Cond.eq (Jvm.Term.length (Jvm.Term.static "java/util/ArrayList" "DEFAULTCAPACITY_EMPTY_ELEMENTDATA" "[Ljava/lang/Object;")) (Jvm.Term.int (0 : Int32))) : Cond).before #[Value.ref b0] s0 = true := (ba1 (ba1 (ba2 (ba1 (ba1 (ba1 (ba1 (ba1 (ba1 (ba2 h.2))))))))))
theorem mi_0 {s0 : State} {b0 : Nat} (h : ab_S0 s0 b0) : ((Jvm.Cond.isRef (Jvm.Term.mirror "[Ljava/lang/Object;")) : Cond).before #[Value.ref b0] s0 = true := (ba1 (ba1 (ba2 (ba2 (ba2 (ba1 (ba2 (ba1 (ba1 (ba2 h.2))))))))))
theorem sx_SIOOBE_FORMATTER {s0 : State} {b0 : Nat} (h : ab_S0 s0 b0) : ((Jvm.Cond.isRef (Jvm.Term.static "jdk/internal/util/Preconditions" "SIOOBE_FORMATTER" "Ljava/util/function/BiFunction;")) : Cond).before #[Value.ref b0] s0 = true := (ba2 (ba1 (ba1 (ba2 (ba2 (ba1 (ba1 (ba1 (ba1 (ba2 h.2))))))))))
