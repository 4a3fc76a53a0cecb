section ZS
variable {p : Program} {l : Launch} {e : Env} {R : Room} {s : State} {m : MethodId} {args : Array Value} {below : List Frame} {meth : Method} {c : Code} {G : zG} {L : Nat} {xs : Nat → Int32} {cl : zA} {d n0 nf : Nat} {Q : State → Prop} {Qp : Option Value → zW → Prop}
/-- java/lang/String.checkIndex(II)V -/
theorem zs_214 (C : zCx zmt p l e R s m args below meth c G L xs prog_13_method_155_code "java/lang/String" none cl d n0 nf Q Qp) (hm : c.maxLocals = 2) (pc : Nat) : zSd p l e R s m args below meth c G L xs cl n0 nf Q Qp pc (zpr 214 pc) :=
 (zT2 (P := zSd p l e R s m args below meth c G L xs cl n0 nf Q Qp pc)
 (zT2 (P := zSd p l e R s m args below meth c G L xs cl n0 nf Q Qp pc)
 (zT1 (P := zSd p l e R s m args below meth c G L xs cl n0 nf Q Qp) (so_iload_n C (show decode prog_13_method_155_code 0 = .ok (.iload_n 0, 1) by decide +kernel)) so_bad)
 (zT1 (P := zSd p l e R s m args below meth c G L xs cl n0 nf Q Qp) (so_iload_n C (show decode prog_13_method_155_code 1 = .ok (.iload_n 1, 1) by decide +kernel)) so_bad))
 (zT2 (P := zSd p l e R s m args below meth c G L xs cl n0 nf Q Qp pc)
 (zT1 (P := zSd p l e R s m args below meth c G L xs cl n0 nf Q Qp) (so_chk C (show decode prog_13_method_155_code 2 = .ok (.getstatic 1053, 3) by decide +kernel) (show decode prog_13_method_155_code 5 = .ok (.invokestatic 1059, 3) by decide +kernel) zk356 zk357 zk586 zk587 zk588) so_bad)
 (zT2 (P := zSd p l e R s m args below meth c G L xs cl n0 nf Q Qp pc)
 (zT1 (P := zSd p l e R s m args below meth c G L xs cl n0 nf Q Qp) (so_pop C (show decode prog_13_method_155_code 8 = .ok (.pop, 1) by decide +kernel)) so_bad)
 (zT1 (P := zSd p l e R s m args below meth c G L xs cl n0 nf Q Qp) (so_return C (show decode prog_13_method_155_code 9 = .ok (.return_, 1) by decide +kernel) rfl) so_bad))))
end ZS
