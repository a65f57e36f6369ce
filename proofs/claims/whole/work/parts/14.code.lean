/-! ===== the methods' code as lists of items (written by program: wip/whole/gen.py) ===== -/
def kX0_amountDue_0 : List Item := [(0, .iload_n 3, 1, 1, 3, 0, 0, 0, [], .null),
    (1, .aload_n 0, 1, 3, 0, 0, 0, 0, [], .null),
    (2, .getfield 15, 3, 26, 0, 1, 0, 0, [], .null),
    (5, .iload_n 1, 1, 1, 1, 0, 0, 0, [], .null),
    (6, .iaload, 1, 31, 0, 0, 0, 0, [], .null),
    (7, .if_icmp .ge 18, 3, 21, 25, 3, 0, 0, [], .null),
    (10, .aload_n 0, 1, 3, 0, 0, 0, 0, [], .null),
    (11, .getfield 34, 3, 26, 0, 7, 0, 0, [], .null),
    (14, .iload_n 1, 1, 1, 1, 0, 0, 0, [], .null),
    (15, .iload_n 2, 1, 1, 2, 0, 0, 0, [], .null),
    (16, .iload_n 3, 1, 1, 3, 0, 0, 0, [], .null),
    (17, .iadd, 1, 8, 0, 0, 0, 0, [], .null),
    (18, .invokestatic 45, 3, 48, 11, 2, 0, 0, [], .null),
    (21, .iaload, 1, 31, 0, 0, 0, 0, [], .null),
    (22, .goto 4, 3, 22, 26, 0, 0, 0, [], .null)]
def kX0_amountDue_25 : List Item := [(25, .iconst 0, 1, 0, 0, 0, 0, 0, [], .int 0),
    (26, .ireturn, 1, 56, 0, 0, 0, 0, [], .null)]
def kX0_amountDue_26 : List Item := [(26, .ireturn, 1, 56, 0, 0, 0, 0, [], .null)]
def kX0_amountDue : Code9 := [(0, kX0_amountDue_0), (25, kX0_amountDue_25), (26, kX0_amountDue_26)]
theorem rX0_amountDue_0 (sa : Nat → Nat) (E : Nat → Sem) (MC MS : Nat) (HX : Nat → Nat → Option Nat) (Q : Option Value → Mm → Prop) (X : Nat → Mm → Prop) (L : List Slot) (st : List Value) (M : Mm) (nc ns : Nat) : Run sa E MC MS HX Q X kX0_amountDue 0 L st M nc ns = bk sa E MC MS HX (Run sa E MC MS HX Q X kX0_amountDue) Q X kX0_amountDue_0 L st M nc ns := Run_eq sa E MC MS HX Q X _ _ _ _ _ _ _
theorem rX0_amountDue_25 (sa : Nat → Nat) (E : Nat → Sem) (MC MS : Nat) (HX : Nat → Nat → Option Nat) (Q : Option Value → Mm → Prop) (X : Nat → Mm → Prop) (L : List Slot) (st : List Value) (M : Mm) (nc ns : Nat) : Run sa E MC MS HX Q X kX0_amountDue 25 L st M nc ns = bk sa E MC MS HX (Run sa E MC MS HX Q X kX0_amountDue) Q X kX0_amountDue_25 L st M nc ns := Run_eq sa E MC MS HX Q X _ _ _ _ _ _ _
theorem rX0_amountDue_26 (sa : Nat → Nat) (E : Nat → Sem) (MC MS : Nat) (HX : Nat → Nat → Option Nat) (Q : Option Value → Mm → Prop) (X : Nat → Mm → Prop) (L : List Slot) (st : List Value) (M : Mm) (nc ns : Nat) : Run sa E MC MS HX Q X kX0_amountDue 26 L st M nc ns = bk sa E MC MS HX (Run sa E MC MS HX Q X kX0_amountDue) Q X kX0_amountDue_26 L st M nc ns := Run_eq sa E MC MS HX Q X _ _ _ _ _ _ _
def kX0_closeAll_0 : List Item := [(0, .iconst 0, 1, 0, 0, 0, 0, 0, [], .int 0),
    (1, .istore_n 1, 1, 4, 1, 0, 0, 0, [], .null),
    (2, .nop, 0, 60, 2, 0, 0, 0, [], .null)]
def kX0_closeAll_2 : List Item := [(2, .iload_n 1, 1, 1, 1, 0, 0, 0, [], .null),
    (3, .aload_n 0, 1, 3, 0, 0, 0, 0, [], .null),
    (4, .getfield 41, 3, 24, 0, 8, 0, 0, [], .null),
    (7, .if_icmp .ge 16, 3, 21, 23, 3, 0, 0, [], .null),
    (10, .aload_n 0, 1, 3, 0, 0, 0, 0, [], .null),
    (11, .getfield 30, 3, 26, 0, 6, 0, 0, [], .null),
    (14, .iload_n 1, 1, 1, 1, 0, 0, 0, [], .null),
    (15, .iconst 0, 1, 0, 0, 0, 0, 0, [], .int 0),
    (16, .bastore, 1, 35, 1, 0, 0, 0, [], .null),
    (17, .iinc 1 1, 3, 7, 1, 0, 0, 0, [], .int 1),
    (20, .goto (-18), 3, 22, 2, 0, 0, 0, [], .null)]
def kX0_closeAll_23 : List Item := [(23, .return_, 1, 55, 0, 0, 0, 0, [], .null)]
def kX0_closeAll : Code9 := [(0, kX0_closeAll_0), (2, kX0_closeAll_2), (23, kX0_closeAll_23)]
theorem rX0_closeAll_0 (sa : Nat → Nat) (E : Nat → Sem) (MC MS : Nat) (HX : Nat → Nat → Option Nat) (Q : Option Value → Mm → Prop) (X : Nat → Mm → Prop) (L : List Slot) (st : List Value) (M : Mm) (nc ns : Nat) : Run sa E MC MS HX Q X kX0_closeAll 0 L st M nc ns = bk sa E MC MS HX (Run sa E MC MS HX Q X kX0_closeAll) Q X kX0_closeAll_0 L st M nc ns := Run_eq sa E MC MS HX Q X _ _ _ _ _ _ _
theorem rX0_closeAll_2 (sa : Nat → Nat) (E : Nat → Sem) (MC MS : Nat) (HX : Nat → Nat → Option Nat) (Q : Option Value → Mm → Prop) (X : Nat → Mm → Prop) (L : List Slot) (st : List Value) (M : Mm) (nc ns : Nat) : Run sa E MC MS HX Q X kX0_closeAll 2 L st M nc ns = bk sa E MC MS HX (Run sa E MC MS HX Q X kX0_closeAll) Q X kX0_closeAll_2 L st M nc ns := Run_eq sa E MC MS HX Q X _ _ _ _ _ _ _
theorem rX0_closeAll_23 (sa : Nat → Nat) (E : Nat → Sem) (MC MS : Nat) (HX : Nat → Nat → Option Nat) (Q : Option Value → Mm → Prop) (X : Nat → Mm → Prop) (L : List Slot) (st : List Value) (M : Mm) (nc ns : Nat) : Run sa E MC MS HX Q X kX0_closeAll 23 L st M nc ns = bk sa E MC MS HX (Run sa E MC MS HX Q X kX0_closeAll) Q X kX0_closeAll_23 L st M nc ns := Run_eq sa E MC MS HX Q X _ _ _ _ _ _ _
def kX0_copyFrom_0 : List Item := [(0, .aload_n 1, 1, 3, 1, 0, 0, 0, [], .null),
    (1, .getfield 9, 3, 26, 0, 0, 0, 0, [], .null),
    (4, .aload_n 0, 1, 3, 0, 0, 0, 0, [], .null),
    (5, .getfield 9, 3, 26, 0, 0, 0, 0, [], .null),
    (8, .invokestatic 37, 3, 48, 80, 2, 0, 0, [], .null),
    (11, .aload_n 1, 1, 3, 1, 0, 0, 0, [], .null),
    (12, .getfield 15, 3, 26, 0, 1, 0, 0, [], .null),
    (15, .aload_n 0, 1, 3, 0, 0, 0, 0, [], .null),
    (16, .getfield 15, 3, 26, 0, 1, 0, 0, [], .null),
    (19, .invokestatic 37, 3, 48, 80, 2, 0, 0, [], .null),
    (22, .aload_n 1, 1, 3, 1, 0, 0, 0, [], .null),
    (23, .getfield 18, 3, 26, 0, 2, 0, 0, [], .null),
    (26, .aload_n 0, 1, 3, 0, 0, 0, 0, [], .null),
    (27, .getfield 18, 3, 26, 0, 2, 0, 0, [], .null),
    (30, .invokestatic 37, 3, 48, 80, 2, 0, 0, [], .null),
    (33, .aload_n 1, 1, 3, 1, 0, 0, 0, [], .null),
    (34, .getfield 21, 3, 26, 0, 3, 0, 0, [], .null),
    (37, .aload_n 0, 1, 3, 0, 0, 0, 0, [], .null),
    (38, .getfield 21, 3, 26, 0, 3, 0, 0, [], .null),
    (41, .invokestatic 37, 3, 48, 80, 2, 0, 0, [], .null),
    (44, .aload_n 1, 1, 3, 1, 0, 0, 0, [], .null),
    (45, .getfield 24, 3, 26, 0, 4, 0, 0, [], .null),
    (48, .aload_n 0, 1, 3, 0, 0, 0, 0, [], .null),
    (49, .getfield 24, 3, 26, 0, 4, 0, 0, [], .null),
    (52, .invokestatic 37, 3, 48, 80, 2, 0, 0, [], .null),
    (55, .aload_n 1, 1, 3, 1, 0, 0, 0, [], .null),
    (56, .getfield 27, 3, 26, 0, 5, 0, 0, [], .null),
    (59, .aload_n 0, 1, 3, 0, 0, 0, 0, [], .null),
    (60, .getfield 27, 3, 26, 0, 5, 0, 0, [], .null),
    (63, .invokestatic 37, 3, 48, 80, 2, 0, 0, [], .null),
    (66, .aload_n 1, 1, 3, 1, 0, 0, 0, [], .null),
    (67, .getfield 34, 3, 26, 0, 7, 0, 0, [], .null),
    (70, .aload_n 0, 1, 3, 0, 0, 0, 0, [], .null),
    (71, .getfield 34, 3, 26, 0, 7, 0, 0, [], .null),
    (74, .invokestatic 37, 3, 48, 80, 2, 0, 0, [], .null),
    (77, .aload_n 0, 1, 3, 0, 0, 0, 0, [], .null),
    (78, .aload_n 1, 1, 3, 1, 0, 0, 0, [], .null),
    (79, .getfield 41, 3, 24, 0, 8, 0, 0, [], .null),
    (82, .putfield 41, 3, 27, 0, 8, 0, 0, [], .null),
    (85, .return_, 1, 55, 0, 0, 0, 0, [], .null)]
def kX0_copyFrom : Code9 := [(0, kX0_copyFrom_0)]
theorem rX0_copyFrom_0 (sa : Nat → Nat) (E : Nat → Sem) (MC MS : Nat) (HX : Nat → Nat → Option Nat) (Q : Option Value → Mm → Prop) (X : Nat → Mm → Prop) (L : List Slot) (st : List Value) (M : Mm) (nc ns : Nat) : Run sa E MC MS HX Q X kX0_copyFrom 0 L st M nc ns = bk sa E MC MS HX (Run sa E MC MS HX Q X kX0_copyFrom) Q X kX0_copyFrom_0 L st M nc ns := Run_eq sa E MC MS HX Q X _ _ _ _ _ _ _
def kX0_firstOpenChild_0 : List Item := [(0, .iload_n 1, 1, 1, 1, 0, 0, 0, [], .null),
    (1, .iconst 1, 1, 0, 0, 0, 0, 0, [], .int 1),
    (2, .iadd, 1, 8, 0, 0, 0, 0, [], .null),
    (3, .istore_n 2, 1, 4, 2, 0, 0, 0, [], .null),
    (4, .nop, 0, 60, 4, 0, 0, 0, [], .null)]
def kX0_firstOpenChild_4 : List Item := [(4, .iload_n 2, 1, 1, 2, 0, 0, 0, [], .null),
    (5, .aload_n 0, 1, 3, 0, 0, 0, 0, [], .null),
    (6, .getfield 41, 3, 24, 0, 8, 0, 0, [], .null),
    (9, .if_icmp .ge 29, 3, 21, 38, 3, 0, 0, [], .null),
    (12, .aload_n 0, 1, 3, 0, 0, 0, 0, [], .null),
    (13, .iload_n 2, 1, 1, 2, 0, 0, 0, [], .null),
    (14, .iload_n 1, 1, 1, 1, 0, 0, 0, [], .null),
    (15, .invokevirtual 53, 3, 48, 5, 3, 0, 0, [0], .null),
    (18, .ifCond .eq 14, 3, 20, 32, 0, 0, 0, [], .null),
    (21, .aload_n 0, 1, 3, 0, 0, 0, 0, [], .null),
    (22, .getfield 24, 3, 26, 0, 4, 0, 0, [], .null),
    (25, .iload_n 2, 1, 1, 2, 0, 0, 0, [], .null),
    (26, .iaload, 1, 31, 0, 0, 0, 0, [], .null),
    (27, .ifCond .le 5, 3, 20, 32, 5, 0, 0, [], .null),
    (30, .iload_n 2, 1, 1, 2, 0, 0, 0, [], .null),
    (31, .ireturn, 1, 56, 0, 0, 0, 0, [], .null)]
def kX0_firstOpenChild_32 : List Item := [(32, .iinc 2 1, 3, 7, 2, 0, 0, 0, [], .int 1),
    (35, .goto (-31), 3, 22, 4, 0, 0, 0, [], .null)]
def kX0_firstOpenChild_38 : List Item := [(38, .iconst (-1), 1, 0, 0, 0, 0, 0, [], .int (-1)),
    (39, .ireturn, 1, 56, 0, 0, 0, 0, [], .null)]
def kX0_firstOpenChild : Code9 := [(0, kX0_firstOpenChild_0), (4, kX0_firstOpenChild_4), (32, kX0_firstOpenChild_32), (38, kX0_firstOpenChild_38)]
theorem rX0_firstOpenChild_0 (sa : Nat → Nat) (E : Nat → Sem) (MC MS : Nat) (HX : Nat → Nat → Option Nat) (Q : Option Value → Mm → Prop) (X : Nat → Mm → Prop) (L : List Slot) (st : List Value) (M : Mm) (nc ns : Nat) : Run sa E MC MS HX Q X kX0_firstOpenChild 0 L st M nc ns = bk sa E MC MS HX (Run sa E MC MS HX Q X kX0_firstOpenChild) Q X kX0_firstOpenChild_0 L st M nc ns := Run_eq sa E MC MS HX Q X _ _ _ _ _ _ _
theorem rX0_firstOpenChild_4 (sa : Nat → Nat) (E : Nat → Sem) (MC MS : Nat) (HX : Nat → Nat → Option Nat) (Q : Option Value → Mm → Prop) (X : Nat → Mm → Prop) (L : List Slot) (st : List Value) (M : Mm) (nc ns : Nat) : Run sa E MC MS HX Q X kX0_firstOpenChild 4 L st M nc ns = bk sa E MC MS HX (Run sa E MC MS HX Q X kX0_firstOpenChild) Q X kX0_firstOpenChild_4 L st M nc ns := Run_eq sa E MC MS HX Q X _ _ _ _ _ _ _
theorem rX0_firstOpenChild_32 (sa : Nat → Nat) (E : Nat → Sem) (MC MS : Nat) (HX : Nat → Nat → Option Nat) (Q : Option Value → Mm → Prop) (X : Nat → Mm → Prop) (L : List Slot) (st : List Value) (M : Mm) (nc ns : Nat) : Run sa E MC MS HX Q X kX0_firstOpenChild 32 L st M nc ns = bk sa E MC MS HX (Run sa E MC MS HX Q X kX0_firstOpenChild) Q X kX0_firstOpenChild_32 L st M nc ns := Run_eq sa E MC MS HX Q X _ _ _ _ _ _ _
theorem rX0_firstOpenChild_38 (sa : Nat → Nat) (E : Nat → Sem) (MC MS : Nat) (HX : Nat → Nat → Option Nat) (Q : Option Value → Mm → Prop) (X : Nat → Mm → Prop) (L : List Slot) (st : List Value) (M : Mm) (nc ns : Nat) : Run sa E MC MS HX Q X kX0_firstOpenChild 38 L st M nc ns = bk sa E MC MS HX (Run sa E MC MS HX Q X kX0_firstOpenChild) Q X kX0_firstOpenChild_38 L st M nc ns := Run_eq sa E MC MS HX Q X _ _ _ _ _ _ _
def kX0_init_0 : List Item := [(0, .aload_n 0, 1, 3, 0, 0, 0, 0, [], .null),
    (1, .invokespecial 3, 3, 47, 0, 0, 0, 0, [], .null),
    (4, .aload_n 0, 1, 3, 0, 0, 0, 0, [], .null),
    (5, .bipush 16, 2, 0, 0, 0, 0, 0, [], .int 16),
    (7, .newarray .int, 2, 44, 0, 0, 0, 0, [], .null),
    (9, .putfield 9, 3, 29, 0, 0, 0, 0, [], .null),
    (12, .aload_n 0, 1, 3, 0, 0, 0, 0, [], .null),
    (13, .bipush 16, 2, 0, 0, 0, 0, 0, [], .int 16),
    (15, .newarray .int, 2, 44, 0, 0, 0, 0, [], .null),
    (17, .putfield 15, 3, 29, 0, 1, 0, 0, [], .null),
    (20, .aload_n 0, 1, 3, 0, 0, 0, 0, [], .null),
    (21, .bipush 16, 2, 0, 0, 0, 0, 0, [], .int 16),
    (23, .newarray .int, 2, 44, 0, 0, 0, 0, [], .null),
    (25, .putfield 18, 3, 29, 0, 2, 0, 0, [], .null),
    (28, .aload_n 0, 1, 3, 0, 0, 0, 0, [], .null),
    (29, .bipush 16, 2, 0, 0, 0, 0, 0, [], .int 16),
    (31, .newarray .int, 2, 44, 0, 0, 0, 0, [], .null),
    (33, .putfield 21, 3, 29, 0, 3, 0, 0, [], .null),
    (36, .aload_n 0, 1, 3, 0, 0, 0, 0, [], .null),
    (37, .bipush 16, 2, 0, 0, 0, 0, 0, [], .int 16),
    (39, .newarray .int, 2, 44, 0, 0, 0, 0, [], .null),
    (41, .putfield 24, 3, 29, 0, 4, 0, 0, [], .null),
    (44, .aload_n 0, 1, 3, 0, 0, 0, 0, [], .null),
    (45, .bipush 16, 2, 0, 0, 0, 0, 0, [], .int 16),
    (47, .newarray .int, 2, 44, 0, 0, 0, 0, [], .null),
    (49, .putfield 27, 3, 29, 0, 5, 0, 0, [], .null),
    (52, .aload_n 0, 1, 3, 0, 0, 0, 0, [], .null),
    (53, .bipush 16, 2, 0, 0, 0, 0, 0, [], .int 16),
    (55, .newarray .boolean, 2, 44, 1, 0, 0, 0, [], .null),
    (57, .putfield 30, 3, 29, 0, 6, 0, 0, [], .null),
    (60, .aload_n 0, 1, 3, 0, 0, 0, 0, [], .null),
    (61, .bipush 112, 2, 0, 0, 0, 0, 0, [], .int 112),
    (63, .newarray .int, 2, 44, 0, 0, 0, 0, [], .null),
    (65, .putfield 34, 3, 29, 0, 7, 0, 0, [], .null),
    (68, .return_, 1, 55, 0, 0, 0, 0, [], .null)]
def kX0_init : Code9 := [(0, kX0_init_0)]
theorem rX0_init_0 (sa : Nat → Nat) (E : Nat → Sem) (MC MS : Nat) (HX : Nat → Nat → Option Nat) (Q : Option Value → Mm → Prop) (X : Nat → Mm → Prop) (L : List Slot) (st : List Value) (M : Mm) (nc ns : Nat) : Run sa E MC MS HX Q X kX0_init 0 L st M nc ns = bk sa E MC MS HX (Run sa E MC MS HX Q X kX0_init) Q X kX0_init_0 L st M nc ns := Run_eq sa E MC MS HX Q X _ _ _ _ _ _ _
def kX0_isOpenChild_0 : List Item := [(0, .aload_n 0, 1, 3, 0, 0, 0, 0, [], .null),
    (1, .getfield 9, 3, 26, 0, 0, 0, 0, [], .null),
    (4, .iload_n 1, 1, 1, 1, 0, 0, 0, [], .null),
    (5, .iaload, 1, 31, 0, 0, 0, 0, [], .null),
    (6, .iload_n 2, 1, 1, 2, 0, 0, 0, [], .null),
    (7, .if_icmp .ne 16, 3, 21, 23, 1, 0, 0, [], .null),
    (10, .aload_n 0, 1, 3, 0, 0, 0, 0, [], .null),
    (11, .getfield 30, 3, 26, 0, 6, 0, 0, [], .null),
    (14, .iload_n 1, 1, 1, 1, 0, 0, 0, [], .null),
    (15, .baload, 1, 31, 1, 0, 0, 0, [], .null),
    (16, .ifCond .eq 7, 3, 20, 23, 0, 0, 0, [], .null),
    (19, .iconst 1, 1, 0, 0, 0, 0, 0, [], .int 1),
    (20, .goto 4, 3, 22, 24, 0, 0, 0, [], .null)]
def kX0_isOpenChild_23 : List Item := [(23, .iconst 0, 1, 0, 0, 0, 0, 0, [], .int 0),
    (24, .ireturn, 1, 58, 0, 0, 0, 0, [], .null)]
def kX0_isOpenChild_24 : List Item := [(24, .ireturn, 1, 58, 0, 0, 0, 0, [], .null)]
def kX0_isOpenChild : Code9 := [(0, kX0_isOpenChild_0), (23, kX0_isOpenChild_23), (24, kX0_isOpenChild_24)]
theorem rX0_isOpenChild_0 (sa : Nat → Nat) (E : Nat → Sem) (MC MS : Nat) (HX : Nat → Nat → Option Nat) (Q : Option Value → Mm → Prop) (X : Nat → Mm → Prop) (L : List Slot) (st : List Value) (M : Mm) (nc ns : Nat) : Run sa E MC MS HX Q X kX0_isOpenChild 0 L st M nc ns = bk sa E MC MS HX (Run sa E MC MS HX Q X kX0_isOpenChild) Q X kX0_isOpenChild_0 L st M nc ns := Run_eq sa E MC MS HX Q X _ _ _ _ _ _ _
theorem rX0_isOpenChild_23 (sa : Nat → Nat) (E : Nat → Sem) (MC MS : Nat) (HX : Nat → Nat → Option Nat) (Q : Option Value → Mm → Prop) (X : Nat → Mm → Prop) (L : List Slot) (st : List Value) (M : Mm) (nc ns : Nat) : Run sa E MC MS HX Q X kX0_isOpenChild 23 L st M nc ns = bk sa E MC MS HX (Run sa E MC MS HX Q X kX0_isOpenChild) Q X kX0_isOpenChild_23 L st M nc ns := Run_eq sa E MC MS HX Q X _ _ _ _ _ _ _
theorem rX0_isOpenChild_24 (sa : Nat → Nat) (E : Nat → Sem) (MC MS : Nat) (HX : Nat → Nat → Option Nat) (Q : Option Value → Mm → Prop) (X : Nat → Mm → Prop) (L : List Slot) (st : List Value) (M : Mm) (nc ns : Nat) : Run sa E MC MS HX Q X kX0_isOpenChild 24 L st M nc ns = bk sa E MC MS HX (Run sa E MC MS HX Q X kX0_isOpenChild) Q X kX0_isOpenChild_24 L st M nc ns := Run_eq sa E MC MS HX Q X _ _ _ _ _ _ _
def kX0_letArrive_0 : List Item := [(0, .iload_n 1, 1, 1, 1, 0, 0, 0, [], .null),
    (1, .iload_n 2, 1, 1, 2, 0, 0, 0, [], .null),
    (2, .invokestatic 45, 3, 48, 11, 2, 0, 0, [], .null),
    (5, .istore_n 3, 1, 4, 3, 0, 0, 0, [], .null),
    (6, .aload_n 0, 1, 3, 0, 0, 0, 0, [], .null),
    (7, .getfield 27, 3, 26, 0, 5, 0, 0, [], .null),
    (10, .iload_n 1, 1, 1, 1, 0, 0, 0, [], .null),
    (11, .aload_n 0, 1, 3, 0, 0, 0, 0, [], .null),
    (12, .getfield 34, 3, 26, 0, 7, 0, 0, [], .null),
    (15, .iload_n 3, 1, 1, 3, 0, 0, 0, [], .null),
    (16, .iaload, 1, 31, 0, 0, 0, 0, [], .null),
    (17, .iastore, 1, 35, 0, 0, 0, 0, [], .null),
    (18, .aload_n 0, 1, 3, 0, 0, 0, 0, [], .null),
    (19, .getfield 34, 3, 26, 0, 7, 0, 0, [], .null),
    (22, .iload_n 3, 1, 1, 3, 0, 0, 0, [], .null),
    (23, .iconst 0, 1, 0, 0, 0, 0, 0, [], .int 0),
    (24, .iastore, 1, 35, 0, 0, 0, 0, [], .null),
    (25, .aload_n 0, 1, 3, 0, 0, 0, 0, [], .null),
    (26, .getfield 27, 3, 26, 0, 5, 0, 0, [], .null),
    (29, .iload_n 1, 1, 1, 1, 0, 0, 0, [], .null),
    (30, .iaload, 1, 31, 0, 0, 0, 0, [], .null),
    (31, .ireturn, 1, 56, 0, 0, 0, 0, [], .null)]
def kX0_letArrive : Code9 := [(0, kX0_letArrive_0)]
theorem rX0_letArrive_0 (sa : Nat → Nat) (E : Nat → Sem) (MC MS : Nat) (HX : Nat → Nat → Option Nat) (Q : Option Value → Mm → Prop) (X : Nat → Mm → Prop) (L : List Slot) (st : List Value) (M : Mm) (nc ns : Nat) : Run sa E MC MS HX Q X kX0_letArrive 0 L st M nc ns = bk sa E MC MS HX (Run sa E MC MS HX Q X kX0_letArrive) Q X kX0_letArrive_0 L st M nc ns := Run_eq sa E MC MS HX Q X _ _ _ _ _ _ _
def kX0_openAt_0 : List Item := [(0, .iload_n 1, 1, 1, 1, 0, 0, 0, [], .null),
    (1, .ifCond .lt 18, 3, 20, 19, 2, 0, 0, [], .null),
    (4, .iload_n 1, 1, 1, 1, 0, 0, 0, [], .null),
    (5, .aload_n 0, 1, 3, 0, 0, 0, 0, [], .null),
    (6, .getfield 41, 3, 24, 0, 8, 0, 0, [], .null),
    (9, .if_icmp .ge 10, 3, 21, 19, 3, 0, 0, [], .null),
    (12, .aload_n 0, 1, 3, 0, 0, 0, 0, [], .null),
    (13, .getfield 30, 3, 26, 0, 6, 0, 0, [], .null),
    (16, .iload_n 1, 1, 1, 1, 0, 0, 0, [], .null),
    (17, .iconst 1, 1, 0, 0, 0, 0, 0, [], .int 1),
    (18, .bastore, 1, 35, 1, 0, 0, 0, [], .null),
    (19, .return_, 1, 55, 0, 0, 0, 0, [], .null)]
def kX0_openAt_19 : List Item := [(19, .return_, 1, 55, 0, 0, 0, 0, [], .null)]
def kX0_openAt : Code9 := [(0, kX0_openAt_0), (19, kX0_openAt_19)]
theorem rX0_openAt_0 (sa : Nat → Nat) (E : Nat → Sem) (MC MS : Nat) (HX : Nat → Nat → Option Nat) (Q : Option Value → Mm → Prop) (X : Nat → Mm → Prop) (L : List Slot) (st : List Value) (M : Mm) (nc ns : Nat) : Run sa E MC MS HX Q X kX0_openAt 0 L st M nc ns = bk sa E MC MS HX (Run sa E MC MS HX Q X kX0_openAt) Q X kX0_openAt_0 L st M nc ns := Run_eq sa E MC MS HX Q X _ _ _ _ _ _ _
theorem rX0_openAt_19 (sa : Nat → Nat) (E : Nat → Sem) (MC MS : Nat) (HX : Nat → Nat → Option Nat) (Q : Option Value → Mm → Prop) (X : Nat → Mm → Prop) (L : List Slot) (st : List Value) (M : Mm) (nc ns : Nat) : Run sa E MC MS HX Q X kX0_openAt 19 L st M nc ns = bk sa E MC MS HX (Run sa E MC MS HX Q X kX0_openAt) Q X kX0_openAt_19 L st M nc ns := Run_eq sa E MC MS HX Q X _ _ _ _ _ _ _
def kX0_openParents_0 : List Item := [(0, .aload_n 0, 1, 3, 0, 0, 0, 0, [], .null),
    (1, .getfield 41, 3, 24, 0, 8, 0, 0, [], .null),
    (4, .iconst 1, 1, 0, 0, 0, 0, 0, [], .int 1),
    (5, .isub, 1, 8, 0, 1, 0, 0, [], .null),
    (6, .istore_n 1, 1, 4, 1, 0, 0, 0, [], .null),
    (7, .nop, 0, 60, 7, 0, 0, 0, [], .null)]
def kX0_openParents_7 : List Item := [(7, .iload_n 1, 1, 1, 1, 0, 0, 0, [], .null),
    (8, .ifCond .le 28, 3, 20, 36, 5, 0, 0, [], .null),
    (11, .aload_n 0, 1, 3, 0, 0, 0, 0, [], .null),
    (12, .getfield 30, 3, 26, 0, 6, 0, 0, [], .null),
    (15, .iload_n 1, 1, 1, 1, 0, 0, 0, [], .null),
    (16, .baload, 1, 31, 1, 0, 0, 0, [], .null),
    (17, .ifCond .eq 13, 3, 20, 30, 0, 0, 0, [], .null),
    (20, .aload_n 0, 1, 3, 0, 0, 0, 0, [], .null),
    (21, .aload_n 0, 1, 3, 0, 0, 0, 0, [], .null),
    (22, .getfield 9, 3, 26, 0, 0, 0, 0, [], .null),
    (25, .iload_n 1, 1, 1, 1, 0, 0, 0, [], .null),
    (26, .iaload, 1, 31, 0, 0, 0, 0, [], .null),
    (27, .invokevirtual 49, 3, 48, 7, 2, 0, 0, [0], .null),
    (30, .iinc 1 (-1), 3, 7, 1, 0, 0, 0, [], .int (-1)),
    (33, .goto (-26), 3, 22, 7, 0, 0, 0, [], .null)]
def kX0_openParents_30 : List Item := [(30, .iinc 1 (-1), 3, 7, 1, 0, 0, 0, [], .int (-1)),
    (33, .goto (-26), 3, 22, 7, 0, 0, 0, [], .null)]
def kX0_openParents_36 : List Item := [(36, .return_, 1, 55, 0, 0, 0, 0, [], .null)]
def kX0_openParents : Code9 := [(0, kX0_openParents_0), (7, kX0_openParents_7), (30, kX0_openParents_30), (36, kX0_openParents_36)]
theorem rX0_openParents_0 (sa : Nat → Nat) (E : Nat → Sem) (MC MS : Nat) (HX : Nat → Nat → Option Nat) (Q : Option Value → Mm → Prop) (X : Nat → Mm → Prop) (L : List Slot) (st : List Value) (M : Mm) (nc ns : Nat) : Run sa E MC MS HX Q X kX0_openParents 0 L st M nc ns = bk sa E MC MS HX (Run sa E MC MS HX Q X kX0_openParents) Q X kX0_openParents_0 L st M nc ns := Run_eq sa E MC MS HX Q X _ _ _ _ _ _ _
theorem rX0_openParents_7 (sa : Nat → Nat) (E : Nat → Sem) (MC MS : Nat) (HX : Nat → Nat → Option Nat) (Q : Option Value → Mm → Prop) (X : Nat → Mm → Prop) (L : List Slot) (st : List Value) (M : Mm) (nc ns : Nat) : Run sa E MC MS HX Q X kX0_openParents 7 L st M nc ns = bk sa E MC MS HX (Run sa E MC MS HX Q X kX0_openParents) Q X kX0_openParents_7 L st M nc ns := Run_eq sa E MC MS HX Q X _ _ _ _ _ _ _
theorem rX0_openParents_30 (sa : Nat → Nat) (E : Nat → Sem) (MC MS : Nat) (HX : Nat → Nat → Option Nat) (Q : Option Value → Mm → Prop) (X : Nat → Mm → Prop) (L : List Slot) (st : List Value) (M : Mm) (nc ns : Nat) : Run sa E MC MS HX Q X kX0_openParents 30 L st M nc ns = bk sa E MC MS HX (Run sa E MC MS HX Q X kX0_openParents) Q X kX0_openParents_30 L st M nc ns := Run_eq sa E MC MS HX Q X _ _ _ _ _ _ _
theorem rX0_openParents_36 (sa : Nat → Nat) (E : Nat → Sem) (MC MS : Nat) (HX : Nat → Nat → Option Nat) (Q : Option Value → Mm → Prop) (X : Nat → Mm → Prop) (L : List Slot) (st : List Value) (M : Mm) (nc ns : Nat) : Run sa E MC MS HX Q X kX0_openParents 36 L st M nc ns = bk sa E MC MS HX (Run sa E MC MS HX Q X kX0_openParents) Q X kX0_openParents_36 L st M nc ns := Run_eq sa E MC MS HX Q X _ _ _ _ _ _ _
def kX0_openShares_0 : List Item := [(0, .iconst 0, 1, 0, 0, 0, 0, 0, [], .int 0),
    (1, .istore_n 2, 1, 4, 2, 0, 0, 0, [], .null),
    (2, .iload_n 1, 1, 1, 1, 0, 0, 0, [], .null),
    (3, .iconst 1, 1, 0, 0, 0, 0, 0, [], .int 1),
    (4, .iadd, 1, 8, 0, 0, 0, 0, [], .null),
    (5, .istore_n 3, 1, 4, 3, 0, 0, 0, [], .null),
    (6, .nop, 0, 60, 6, 0, 0, 0, [], .null)]
def kX0_openShares_6 : List Item := [(6, .iload_n 3, 1, 1, 3, 0, 0, 0, [], .null),
    (7, .aload_n 0, 1, 3, 0, 0, 0, 0, [], .null),
    (8, .getfield 41, 3, 24, 0, 8, 0, 0, [], .null),
    (11, .if_icmp .ge 27, 3, 21, 38, 3, 0, 0, [], .null),
    (14, .aload_n 0, 1, 3, 0, 0, 0, 0, [], .null),
    (15, .iload_n 3, 1, 1, 3, 0, 0, 0, [], .null),
    (16, .iload_n 1, 1, 1, 1, 0, 0, 0, [], .null),
    (17, .invokevirtual 53, 3, 48, 5, 3, 0, 0, [0], .null),
    (20, .ifCond .eq 12, 3, 20, 32, 0, 0, 0, [], .null),
    (23, .iload_n 2, 1, 1, 2, 0, 0, 0, [], .null),
    (24, .aload_n 0, 1, 3, 0, 0, 0, 0, [], .null),
    (25, .getfield 24, 3, 26, 0, 4, 0, 0, [], .null),
    (28, .iload_n 3, 1, 1, 3, 0, 0, 0, [], .null),
    (29, .iaload, 1, 31, 0, 0, 0, 0, [], .null),
    (30, .iadd, 1, 8, 0, 0, 0, 0, [], .null),
    (31, .istore_n 2, 1, 4, 2, 0, 0, 0, [], .null),
    (32, .iinc 3 1, 3, 7, 3, 0, 0, 0, [], .int 1),
    (35, .goto (-29), 3, 22, 6, 0, 0, 0, [], .null)]
def kX0_openShares_32 : List Item := [(32, .iinc 3 1, 3, 7, 3, 0, 0, 0, [], .int 1),
    (35, .goto (-29), 3, 22, 6, 0, 0, 0, [], .null)]
def kX0_openShares_38 : List Item := [(38, .iload_n 2, 1, 1, 2, 0, 0, 0, [], .null),
    (39, .ireturn, 1, 56, 0, 0, 0, 0, [], .null)]
def kX0_openShares : Code9 := [(0, kX0_openShares_0), (6, kX0_openShares_6), (32, kX0_openShares_32), (38, kX0_openShares_38)]
theorem rX0_openShares_0 (sa : Nat → Nat) (E : Nat → Sem) (MC MS : Nat) (HX : Nat → Nat → Option Nat) (Q : Option Value → Mm → Prop) (X : Nat → Mm → Prop) (L : List Slot) (st : List Value) (M : Mm) (nc ns : Nat) : Run sa E MC MS HX Q X kX0_openShares 0 L st M nc ns = bk sa E MC MS HX (Run sa E MC MS HX Q X kX0_openShares) Q X kX0_openShares_0 L st M nc ns := Run_eq sa E MC MS HX Q X _ _ _ _ _ _ _
theorem rX0_openShares_6 (sa : Nat → Nat) (E : Nat → Sem) (MC MS : Nat) (HX : Nat → Nat → Option Nat) (Q : Option Value → Mm → Prop) (X : Nat → Mm → Prop) (L : List Slot) (st : List Value) (M : Mm) (nc ns : Nat) : Run sa E MC MS HX Q X kX0_openShares 6 L st M nc ns = bk sa E MC MS HX (Run sa E MC MS HX Q X kX0_openShares) Q X kX0_openShares_6 L st M nc ns := Run_eq sa E MC MS HX Q X _ _ _ _ _ _ _
theorem rX0_openShares_32 (sa : Nat → Nat) (E : Nat → Sem) (MC MS : Nat) (HX : Nat → Nat → Option Nat) (Q : Option Value → Mm → Prop) (X : Nat → Mm → Prop) (L : List Slot) (st : List Value) (M : Mm) (nc ns : Nat) : Run sa E MC MS HX Q X kX0_openShares 32 L st M nc ns = bk sa E MC MS HX (Run sa E MC MS HX Q X kX0_openShares) Q X kX0_openShares_32 L st M nc ns := Run_eq sa E MC MS HX Q X _ _ _ _ _ _ _
theorem rX0_openShares_38 (sa : Nat → Nat) (E : Nat → Sem) (MC MS : Nat) (HX : Nat → Nat → Option Nat) (Q : Option Value → Mm → Prop) (X : Nat → Mm → Prop) (L : List Slot) (st : List Value) (M : Mm) (nc ns : Nat) : Run sa E MC MS HX Q X kX0_openShares 38 L st M nc ns = bk sa E MC MS HX (Run sa E MC MS HX Q X kX0_openShares) Q X kX0_openShares_38 L st M nc ns := Run_eq sa E MC MS HX Q X _ _ _ _ _ _ _
def kX0_send_0 : List Item := [(0, .aload_n 0, 1, 3, 0, 0, 0, 0, [], .null),
    (1, .getfield 34, 3, 26, 0, 7, 0, 0, [], .null),
    (4, .iload_n 1, 1, 1, 1, 0, 0, 0, [], .null),
    (5, .iload_n 2, 1, 1, 2, 0, 0, 0, [], .null),
    (6, .aload_n 0, 1, 3, 0, 0, 0, 0, [], .null),
    (7, .getfield 15, 3, 26, 0, 1, 0, 0, [], .null),
    (10, .iload_n 1, 1, 1, 1, 0, 0, 0, [], .null),
    (11, .iaload, 1, 31, 0, 0, 0, 0, [], .null),
    (12, .iadd, 1, 8, 0, 0, 0, 0, [], .null),
    (13, .invokestatic 45, 3, 48, 11, 2, 0, 0, [], .null),
    (16, .iload_n 3, 1, 1, 3, 0, 0, 0, [], .null),
    (17, .iastore, 1, 35, 0, 0, 0, 0, [], .null),
    (18, .return_, 1, 55, 0, 0, 0, 0, [], .null)]
def kX0_send : Code9 := [(0, kX0_send_0)]
theorem rX0_send_0 (sa : Nat → Nat) (E : Nat → Sem) (MC MS : Nat) (HX : Nat → Nat → Option Nat) (Q : Option Value → Mm → Prop) (X : Nat → Mm → Prop) (L : List Slot) (st : List Value) (M : Mm) (nc ns : Nat) : Run sa E MC MS HX Q X kX0_send 0 L st M nc ns = bk sa E MC MS HX (Run sa E MC MS HX Q X kX0_send) Q X kX0_send_0 L st M nc ns := Run_eq sa E MC MS HX Q X _ _ _ _ _ _ _
def kX0_slot_0 : List Item := [(0, .iload_n 0, 1, 1, 0, 0, 0, 0, [], .null),
    (1, .bipush 7, 2, 0, 0, 0, 0, 0, [], .int 7),
    (3, .imul, 1, 8, 0, 2, 0, 0, [], .null),
    (4, .iload_n 1, 1, 1, 1, 0, 0, 0, [], .null),
    (5, .bipush 7, 2, 0, 0, 0, 0, 0, [], .int 7),
    (7, .irem, 1, 9, 0, 1, 0, 0, [], .null),
    (8, .iadd, 1, 8, 0, 0, 0, 0, [], .null),
    (9, .ireturn, 1, 56, 0, 0, 0, 0, [], .null)]
def kX0_slot : Code9 := [(0, kX0_slot_0)]
theorem rX0_slot_0 (sa : Nat → Nat) (E : Nat → Sem) (MC MS : Nat) (HX : Nat → Nat → Option Nat) (Q : Option Value → Mm → Prop) (X : Nat → Mm → Prop) (L : List Slot) (st : List Value) (M : Mm) (nc ns : Nat) : Run sa E MC MS HX Q X kX0_slot 0 L st M nc ns = bk sa E MC MS HX (Run sa E MC MS HX Q X kX0_slot) Q X kX0_slot_0 L st M nc ns := Run_eq sa E MC MS HX Q X _ _ _ _ _ _ _
def kX0_waterInAll_0 : List Item := [(0, .lconst 0, 1, 0, 0, 0, 0, 0, [], .long 0),
    (1, .lstore_n 1, 1, 6, 1, 0, 0, 0, [], .null),
    (2, .iconst 0, 1, 0, 0, 0, 0, 0, [], .int 0),
    (3, .istore_n 3, 1, 4, 3, 0, 0, 0, [], .null),
    (4, .nop, 0, 60, 4, 0, 0, 0, [], .null)]
def kX0_waterInAll_4 : List Item := [(4, .iload_n 3, 1, 1, 3, 0, 0, 0, [], .null),
    (5, .aload_n 0, 1, 3, 0, 0, 0, 0, [], .null),
    (6, .getfield 41, 3, 24, 0, 8, 0, 0, [], .null),
    (9, .bipush 7, 2, 0, 0, 0, 0, 0, [], .int 7),
    (11, .imul, 1, 8, 0, 2, 0, 0, [], .null),
    (12, .if_icmp .ge 19, 3, 21, 31, 3, 0, 0, [], .null),
    (15, .lload_n 1, 1, 2, 1, 0, 0, 0, [], .null),
    (16, .aload_n 0, 1, 3, 0, 0, 0, 0, [], .null),
    (17, .getfield 34, 3, 26, 0, 7, 0, 0, [], .null),
    (20, .iload_n 3, 1, 1, 3, 0, 0, 0, [], .null),
    (21, .iaload, 1, 31, 0, 0, 0, 0, [], .null),
    (22, .i2l, 1, 12, 0, 0, 0, 0, [], .null),
    (23, .ladd, 1, 10, 0, 0, 0, 0, [], .null),
    (24, .lstore_n 1, 1, 6, 1, 0, 0, 0, [], .null),
    (25, .iinc 3 1, 3, 7, 3, 0, 0, 0, [], .int 1),
    (28, .goto (-24), 3, 22, 4, 0, 0, 0, [], .null)]
def kX0_waterInAll_31 : List Item := [(31, .lload_n 1, 1, 2, 1, 0, 0, 0, [], .null),
    (32, .lreturn, 1, 57, 0, 0, 0, 0, [], .null)]
def kX0_waterInAll : Code9 := [(0, kX0_waterInAll_0), (4, kX0_waterInAll_4), (31, kX0_waterInAll_31)]
theorem rX0_waterInAll_0 (sa : Nat → Nat) (E : Nat → Sem) (MC MS : Nat) (HX : Nat → Nat → Option Nat) (Q : Option Value → Mm → Prop) (X : Nat → Mm → Prop) (L : List Slot) (st : List Value) (M : Mm) (nc ns : Nat) : Run sa E MC MS HX Q X kX0_waterInAll 0 L st M nc ns = bk sa E MC MS HX (Run sa E MC MS HX Q X kX0_waterInAll) Q X kX0_waterInAll_0 L st M nc ns := Run_eq sa E MC MS HX Q X _ _ _ _ _ _ _
theorem rX0_waterInAll_4 (sa : Nat → Nat) (E : Nat → Sem) (MC MS : Nat) (HX : Nat → Nat → Option Nat) (Q : Option Value → Mm → Prop) (X : Nat → Mm → Prop) (L : List Slot) (st : List Value) (M : Mm) (nc ns : Nat) : Run sa E MC MS HX Q X kX0_waterInAll 4 L st M nc ns = bk sa E MC MS HX (Run sa E MC MS HX Q X kX0_waterInAll) Q X kX0_waterInAll_4 L st M nc ns := Run_eq sa E MC MS HX Q X _ _ _ _ _ _ _
theorem rX0_waterInAll_31 (sa : Nat → Nat) (E : Nat → Sem) (MC MS : Nat) (HX : Nat → Nat → Option Nat) (Q : Option Value → Mm → Prop) (X : Nat → Mm → Prop) (L : List Slot) (st : List Value) (M : Mm) (nc ns : Nat) : Run sa E MC MS HX Q X kX0_waterInAll 31 L st M nc ns = bk sa E MC MS HX (Run sa E MC MS HX Q X kX0_waterInAll) Q X kX0_waterInAll_31 L st M nc ns := Run_eq sa E MC MS HX Q X _ _ _ _ _ _ _
def kX1_copyFrom_0 : List Item := [(0, .aload_n 1, 1, 3, 1, 0, 0, 0, [], .null),
    (1, .getfield 9, 3, 26, 1, 0, 0, 0, [], .null),
    (4, .aload_n 0, 1, 3, 0, 0, 0, 0, [], .null),
    (5, .getfield 9, 3, 26, 1, 0, 0, 0, [], .null),
    (8, .invokestatic 46, 3, 48, 80, 2, 0, 0, [], .null),
    (11, .aload_n 1, 1, 3, 1, 0, 0, 0, [], .null),
    (12, .getfield 15, 3, 26, 1, 1, 0, 0, [], .null),
    (15, .aload_n 0, 1, 3, 0, 0, 0, 0, [], .null),
    (16, .getfield 15, 3, 26, 1, 1, 0, 0, [], .null),
    (19, .invokestatic 46, 3, 48, 80, 2, 0, 0, [], .null),
    (22, .aload_n 1, 1, 3, 1, 0, 0, 0, [], .null),
    (23, .getfield 18, 3, 26, 1, 2, 0, 0, [], .null),
    (26, .aload_n 0, 1, 3, 0, 0, 0, 0, [], .null),
    (27, .getfield 18, 3, 26, 1, 2, 0, 0, [], .null),
    (30, .invokestatic 46, 3, 48, 80, 2, 0, 0, [], .null),
    (33, .aload_n 1, 1, 3, 1, 0, 0, 0, [], .null),
    (34, .getfield 21, 3, 26, 1, 3, 0, 0, [], .null),
    (37, .aload_n 0, 1, 3, 0, 0, 0, 0, [], .null),
    (38, .getfield 21, 3, 26, 1, 3, 0, 0, [], .null),
    (41, .invokestatic 46, 3, 48, 80, 2, 0, 0, [], .null),
    (44, .aload_n 1, 1, 3, 1, 0, 0, 0, [], .null),
    (45, .getfield 24, 3, 26, 1, 4, 0, 0, [], .null),
    (48, .aload_n 0, 1, 3, 0, 0, 0, 0, [], .null),
    (49, .getfield 24, 3, 26, 1, 4, 0, 0, [], .null),
    (52, .invokestatic 46, 3, 48, 80, 2, 0, 0, [], .null),
    (55, .aload_n 1, 1, 3, 1, 0, 0, 0, [], .null),
    (56, .getfield 27, 3, 26, 1, 5, 0, 0, [], .null),
    (59, .aload_n 0, 1, 3, 0, 0, 0, 0, [], .null),
    (60, .getfield 27, 3, 26, 1, 5, 0, 0, [], .null),
    (63, .invokestatic 46, 3, 48, 80, 2, 0, 0, [], .null),
    (66, .aload_n 1, 1, 3, 1, 0, 0, 0, [], .null),
    (67, .getfield 30, 3, 26, 1, 6, 0, 0, [], .null),
    (70, .aload_n 0, 1, 3, 0, 0, 0, 0, [], .null),
    (71, .getfield 30, 3, 26, 1, 6, 0, 0, [], .null),
    (74, .invokestatic 46, 3, 48, 80, 2, 0, 0, [], .null),
    (77, .aload_n 1, 1, 3, 1, 0, 0, 0, [], .null),
    (78, .getfield 33, 3, 26, 1, 7, 0, 0, [], .null),
    (81, .aload_n 0, 1, 3, 0, 0, 0, 0, [], .null),
    (82, .getfield 33, 3, 26, 1, 7, 0, 0, [], .null),
    (85, .invokestatic 46, 3, 48, 80, 2, 0, 0, [], .null),
    (88, .aload_n 1, 1, 3, 1, 0, 0, 0, [], .null),
    (89, .getfield 36, 3, 26, 1, 8, 0, 0, [], .null),
    (92, .aload_n 0, 1, 3, 0, 0, 0, 0, [], .null),
    (93, .getfield 36, 3, 26, 1, 8, 0, 0, [], .null),
    (96, .invokestatic 46, 3, 48, 80, 2, 0, 0, [], .null),
    (99, .aload_n 1, 1, 3, 1, 0, 0, 0, [], .null),
    (100, .getfield 39, 3, 26, 1, 9, 0, 0, [], .null),
    (103, .aload_n 0, 1, 3, 0, 0, 0, 0, [], .null),
    (104, .getfield 39, 3, 26, 1, 9, 0, 0, [], .null),
    (107, .invokestatic 46, 3, 48, 80, 2, 0, 0, [], .null),
    (110, .aload_n 0, 1, 3, 0, 0, 0, 0, [], .null),
    (111, .aload_n 1, 1, 3, 1, 0, 0, 0, [], .null),
    (112, .getfield 50, 3, 24, 1, 11, 0, 0, [], .null),
    (115, .putfield 50, 3, 27, 1, 11, 0, 0, [], .null),
    (118, .iconst 0, 1, 0, 0, 0, 0, 0, [], .int 0),
    (119, .istore_n 2, 1, 4, 2, 0, 0, 0, [], .null),
    (120, .nop, 0, 60, 120, 0, 0, 0, [], .null)]
def kX1_copyFrom_120 : List Item := [(120, .iload_n 2, 1, 1, 2, 0, 0, 0, [], .null),
    (121, .aload_n 0, 1, 3, 0, 0, 0, 0, [], .null),
    (122, .getfield 50, 3, 24, 1, 11, 0, 0, [], .null),
    (125, .if_icmp .ge 21, 3, 21, 146, 3, 0, 0, [], .null),
    (128, .aload_n 0, 1, 3, 0, 0, 0, 0, [], .null),
    (129, .getfield 42, 3, 26, 1, 10, 0, 0, [], .null),
    (132, .iload_n 2, 1, 1, 2, 0, 0, 0, [], .null),
    (133, .aload_n 1, 1, 3, 1, 0, 0, 0, [], .null),
    (134, .getfield 42, 3, 26, 1, 10, 0, 0, [], .null),
    (137, .iload_n 2, 1, 1, 2, 0, 0, 0, [], .null),
    (138, .baload, 1, 31, 1, 0, 0, 0, [], .null),
    (139, .bastore, 1, 35, 1, 0, 0, 0, [], .null),
    (140, .iinc 2 1, 3, 7, 2, 0, 0, 0, [], .int 1),
    (143, .goto (-23), 3, 22, 120, 0, 0, 0, [], .null)]
def kX1_copyFrom_146 : List Item := [(146, .return_, 1, 55, 0, 0, 0, 0, [], .null)]
def kX1_copyFrom : Code9 := [(0, kX1_copyFrom_0), (120, kX1_copyFrom_120), (146, kX1_copyFrom_146)]
theorem rX1_copyFrom_0 (sa : Nat → Nat) (E : Nat → Sem) (MC MS : Nat) (HX : Nat → Nat → Option Nat) (Q : Option Value → Mm → Prop) (X : Nat → Mm → Prop) (L : List Slot) (st : List Value) (M : Mm) (nc ns : Nat) : Run sa E MC MS HX Q X kX1_copyFrom 0 L st M nc ns = bk sa E MC MS HX (Run sa E MC MS HX Q X kX1_copyFrom) Q X kX1_copyFrom_0 L st M nc ns := Run_eq sa E MC MS HX Q X _ _ _ _ _ _ _
theorem rX1_copyFrom_120 (sa : Nat → Nat) (E : Nat → Sem) (MC MS : Nat) (HX : Nat → Nat → Option Nat) (Q : Option Value → Mm → Prop) (X : Nat → Mm → Prop) (L : List Slot) (st : List Value) (M : Mm) (nc ns : Nat) : Run sa E MC MS HX Q X kX1_copyFrom 120 L st M nc ns = bk sa E MC MS HX (Run sa E MC MS HX Q X kX1_copyFrom) Q X kX1_copyFrom_120 L st M nc ns := Run_eq sa E MC MS HX Q X _ _ _ _ _ _ _
theorem rX1_copyFrom_146 (sa : Nat → Nat) (E : Nat → Sem) (MC MS : Nat) (HX : Nat → Nat → Option Nat) (Q : Option Value → Mm → Prop) (X : Nat → Mm → Prop) (L : List Slot) (st : List Value) (M : Mm) (nc ns : Nat) : Run sa E MC MS HX Q X kX1_copyFrom 146 L st M nc ns = bk sa E MC MS HX (Run sa E MC MS HX Q X kX1_copyFrom) Q X kX1_copyFrom_146 L st M nc ns := Run_eq sa E MC MS HX Q X _ _ _ _ _ _ _
def kX1_countForced_0 : List Item := [(0, .iconst 0, 1, 0, 0, 0, 0, 0, [], .int 0),
    (1, .istore_n 1, 1, 4, 1, 0, 0, 0, [], .null),
    (2, .iconst 0, 1, 0, 0, 0, 0, 0, [], .int 0),
    (3, .istore_n 2, 1, 4, 2, 0, 0, 0, [], .null),
    (4, .nop, 0, 60, 4, 0, 0, 0, [], .null)]
def kX1_countForced_4 : List Item := [(4, .iload_n 2, 1, 1, 2, 0, 0, 0, [], .null),
    (5, .aload_n 0, 1, 3, 0, 0, 0, 0, [], .null),
    (6, .getfield 50, 3, 24, 1, 11, 0, 0, [], .null),
    (9, .if_icmp .ge 26, 3, 21, 35, 3, 0, 0, [], .null),
    (12, .iload_n 1, 1, 1, 1, 0, 0, 0, [], .null),
    (13, .aload_n 0, 1, 3, 0, 0, 0, 0, [], .null),
    (14, .getfield 42, 3, 26, 1, 10, 0, 0, [], .null),
    (17, .iload_n 2, 1, 1, 2, 0, 0, 0, [], .null),
    (18, .baload, 1, 31, 1, 0, 0, 0, [], .null),
    (19, .ifCond .eq 7, 3, 20, 26, 0, 0, 0, [], .null),
    (22, .iconst 1, 1, 0, 0, 0, 0, 0, [], .int 1),
    (23, .goto 4, 3, 22, 27, 0, 0, 0, [], .null)]
def kX1_countForced_26 : List Item := [(26, .iconst 0, 1, 0, 0, 0, 0, 0, [], .int 0),
    (27, .iadd, 1, 8, 0, 0, 0, 0, [], .null),
    (28, .istore_n 1, 1, 4, 1, 0, 0, 0, [], .null),
    (29, .iinc 2 1, 3, 7, 2, 0, 0, 0, [], .int 1),
    (32, .goto (-28), 3, 22, 4, 0, 0, 0, [], .null)]
def kX1_countForced_27 : List Item := [(27, .iadd, 1, 8, 0, 0, 0, 0, [], .null),
    (28, .istore_n 1, 1, 4, 1, 0, 0, 0, [], .null),
    (29, .iinc 2 1, 3, 7, 2, 0, 0, 0, [], .int 1),
    (32, .goto (-28), 3, 22, 4, 0, 0, 0, [], .null)]
def kX1_countForced_35 : List Item := [(35, .iload_n 1, 1, 1, 1, 0, 0, 0, [], .null),
    (36, .ireturn, 1, 56, 0, 0, 0, 0, [], .null)]
def kX1_countForced : Code9 := [(0, kX1_countForced_0), (4, kX1_countForced_4), (26, kX1_countForced_26), (27, kX1_countForced_27), (35, kX1_countForced_35)]
theorem rX1_countForced_0 (sa : Nat → Nat) (E : Nat → Sem) (MC MS : Nat) (HX : Nat → Nat → Option Nat) (Q : Option Value → Mm → Prop) (X : Nat → Mm → Prop) (L : List Slot) (st : List Value) (M : Mm) (nc ns : Nat) : Run sa E MC MS HX Q X kX1_countForced 0 L st M nc ns = bk sa E MC MS HX (Run sa E MC MS HX Q X kX1_countForced) Q X kX1_countForced_0 L st M nc ns := Run_eq sa E MC MS HX Q X _ _ _ _ _ _ _
theorem rX1_countForced_4 (sa : Nat → Nat) (E : Nat → Sem) (MC MS : Nat) (HX : Nat → Nat → Option Nat) (Q : Option Value → Mm → Prop) (X : Nat → Mm → Prop) (L : List Slot) (st : List Value) (M : Mm) (nc ns : Nat) : Run sa E MC MS HX Q X kX1_countForced 4 L st M nc ns = bk sa E MC MS HX (Run sa E MC MS HX Q X kX1_countForced) Q X kX1_countForced_4 L st M nc ns := Run_eq sa E MC MS HX Q X _ _ _ _ _ _ _
theorem rX1_countForced_26 (sa : Nat → Nat) (E : Nat → Sem) (MC MS : Nat) (HX : Nat → Nat → Option Nat) (Q : Option Value → Mm → Prop) (X : Nat → Mm → Prop) (L : List Slot) (st : List Value) (M : Mm) (nc ns : Nat) : Run sa E MC MS HX Q X kX1_countForced 26 L st M nc ns = bk sa E MC MS HX (Run sa E MC MS HX Q X kX1_countForced) Q X kX1_countForced_26 L st M nc ns := Run_eq sa E MC MS HX Q X _ _ _ _ _ _ _
theorem rX1_countForced_27 (sa : Nat → Nat) (E : Nat → Sem) (MC MS : Nat) (HX : Nat → Nat → Option Nat) (Q : Option Value → Mm → Prop) (X : Nat → Mm → Prop) (L : List Slot) (st : List Value) (M : Mm) (nc ns : Nat) : Run sa E MC MS HX Q X kX1_countForced 27 L st M nc ns = bk sa E MC MS HX (Run sa E MC MS HX Q X kX1_countForced) Q X kX1_countForced_27 L st M nc ns := Run_eq sa E MC MS HX Q X _ _ _ _ _ _ _
theorem rX1_countForced_35 (sa : Nat → Nat) (E : Nat → Sem) (MC MS : Nat) (HX : Nat → Nat → Option Nat) (Q : Option Value → Mm → Prop) (X : Nat → Mm → Prop) (L : List Slot) (st : List Value) (M : Mm) (nc ns : Nat) : Run sa E MC MS HX Q X kX1_countForced 35 L st M nc ns = bk sa E MC MS HX (Run sa E MC MS HX Q X kX1_countForced) Q X kX1_countForced_35 L st M nc ns := Run_eq sa E MC MS HX Q X _ _ _ _ _ _ _
def kX1_demandOf_0 : List Item := [(0, .iconst 0, 1, 0, 0, 0, 0, 0, [], .int 0),
    (1, .istore_n 2, 1, 4, 2, 0, 0, 0, [], .null),
    (2, .iconst 0, 1, 0, 0, 0, 0, 0, [], .int 0),
    (3, .istore_n 3, 1, 4, 3, 0, 0, 0, [], .null),
    (4, .nop, 0, 60, 4, 0, 0, 0, [], .null)]
def kX1_demandOf_4 : List Item := [(4, .iload_n 3, 1, 1, 3, 0, 0, 0, [], .null),
    (5, .aload_n 0, 1, 3, 0, 0, 0, 0, [], .null),
    (6, .getfield 50, 3, 24, 1, 11, 0, 0, [], .null),
    (9, .if_icmp .ge 32, 3, 21, 41, 3, 0, 0, [], .null),
    (12, .iload_n 2, 1, 1, 2, 0, 0, 0, [], .null),
    (13, .aload_n 0, 1, 3, 0, 0, 0, 0, [], .null),
    (14, .getfield 15, 3, 26, 1, 1, 0, 0, [], .null),
    (17, .iload_n 3, 1, 1, 3, 0, 0, 0, [], .null),
    (18, .iaload, 1, 31, 0, 0, 0, 0, [], .null),
    (19, .iload_n 1, 1, 1, 1, 0, 0, 0, [], .null),
    (20, .if_icmp .ne 12, 3, 21, 32, 1, 0, 0, [], .null),
    (23, .aload_n 0, 1, 3, 0, 0, 0, 0, [], .null),
    (24, .getfield 21, 3, 26, 1, 3, 0, 0, [], .null),
    (27, .iload_n 3, 1, 1, 3, 0, 0, 0, [], .null),
    (28, .iaload, 1, 31, 0, 0, 0, 0, [], .null),
    (29, .goto 4, 3, 22, 33, 0, 0, 0, [], .null)]
def kX1_demandOf_32 : List Item := [(32, .iconst 0, 1, 0, 0, 0, 0, 0, [], .int 0),
    (33, .iadd, 1, 8, 0, 0, 0, 0, [], .null),
    (34, .istore_n 2, 1, 4, 2, 0, 0, 0, [], .null),
    (35, .iinc 3 1, 3, 7, 3, 0, 0, 0, [], .int 1),
    (38, .goto (-34), 3, 22, 4, 0, 0, 0, [], .null)]
def kX1_demandOf_33 : List Item := [(33, .iadd, 1, 8, 0, 0, 0, 0, [], .null),
    (34, .istore_n 2, 1, 4, 2, 0, 0, 0, [], .null),
    (35, .iinc 3 1, 3, 7, 3, 0, 0, 0, [], .int 1),
    (38, .goto (-34), 3, 22, 4, 0, 0, 0, [], .null)]
def kX1_demandOf_41 : List Item := [(41, .iload_n 2, 1, 1, 2, 0, 0, 0, [], .null),
    (42, .ireturn, 1, 56, 0, 0, 0, 0, [], .null)]
def kX1_demandOf : Code9 := [(0, kX1_demandOf_0), (4, kX1_demandOf_4), (32, kX1_demandOf_32), (33, kX1_demandOf_33), (41, kX1_demandOf_41)]
theorem rX1_demandOf_0 (sa : Nat → Nat) (E : Nat → Sem) (MC MS : Nat) (HX : Nat → Nat → Option Nat) (Q : Option Value → Mm → Prop) (X : Nat → Mm → Prop) (L : List Slot) (st : List Value) (M : Mm) (nc ns : Nat) : Run sa E MC MS HX Q X kX1_demandOf 0 L st M nc ns = bk sa E MC MS HX (Run sa E MC MS HX Q X kX1_demandOf) Q X kX1_demandOf_0 L st M nc ns := Run_eq sa E MC MS HX Q X _ _ _ _ _ _ _
theorem rX1_demandOf_4 (sa : Nat → Nat) (E : Nat → Sem) (MC MS : Nat) (HX : Nat → Nat → Option Nat) (Q : Option Value → Mm → Prop) (X : Nat → Mm → Prop) (L : List Slot) (st : List Value) (M : Mm) (nc ns : Nat) : Run sa E MC MS HX Q X kX1_demandOf 4 L st M nc ns = bk sa E MC MS HX (Run sa E MC MS HX Q X kX1_demandOf) Q X kX1_demandOf_4 L st M nc ns := Run_eq sa E MC MS HX Q X _ _ _ _ _ _ _
theorem rX1_demandOf_32 (sa : Nat → Nat) (E : Nat → Sem) (MC MS : Nat) (HX : Nat → Nat → Option Nat) (Q : Option Value → Mm → Prop) (X : Nat → Mm → Prop) (L : List Slot) (st : List Value) (M : Mm) (nc ns : Nat) : Run sa E MC MS HX Q X kX1_demandOf 32 L st M nc ns = bk sa E MC MS HX (Run sa E MC MS HX Q X kX1_demandOf) Q X kX1_demandOf_32 L st M nc ns := Run_eq sa E MC MS HX Q X _ _ _ _ _ _ _
theorem rX1_demandOf_33 (sa : Nat → Nat) (E : Nat → Sem) (MC MS : Nat) (HX : Nat → Nat → Option Nat) (Q : Option Value → Mm → Prop) (X : Nat → Mm → Prop) (L : List Slot) (st : List Value) (M : Mm) (nc ns : Nat) : Run sa E MC MS HX Q X kX1_demandOf 33 L st M nc ns = bk sa E MC MS HX (Run sa E MC MS HX Q X kX1_demandOf) Q X kX1_demandOf_33 L st M nc ns := Run_eq sa E MC MS HX Q X _ _ _ _ _ _ _
theorem rX1_demandOf_41 (sa : Nat → Nat) (E : Nat → Sem) (MC MS : Nat) (HX : Nat → Nat → Option Nat) (Q : Option Value → Mm → Prop) (X : Nat → Mm → Prop) (L : List Slot) (st : List Value) (M : Mm) (nc ns : Nat) : Run sa E MC MS HX Q X kX1_demandOf 41 L st M nc ns = bk sa E MC MS HX (Run sa E MC MS HX Q X kX1_demandOf) Q X kX1_demandOf_41 L st M nc ns := Run_eq sa E MC MS HX Q X _ _ _ _ _ _ _
def kX1_fairPart_0 : List Item := [(0, .iconst 0, 1, 0, 0, 0, 0, 0, [], .int 0),
    (1, .istore_n 3, 1, 4, 3, 0, 0, 0, [], .null),
    (2, .iconst 0, 1, 0, 0, 0, 0, 0, [], .int 0),
    (3, .istore 4, 2, 4, 4, 0, 0, 0, [], .null),
    (5, .nop, 0, 60, 5, 0, 0, 0, [], .null)]
def kX1_fairPart_5 : List Item := [(5, .iload 4, 2, 1, 4, 0, 0, 0, [], .null),
    (7, .bipush 6, 2, 0, 0, 0, 0, 0, [], .int 6),
    (9, .if_icmp .ge 18, 3, 21, 27, 3, 0, 0, [], .null),
    (12, .iload_n 3, 1, 1, 3, 0, 0, 0, [], .null),
    (13, .aload_n 0, 1, 3, 0, 0, 0, 0, [], .null),
    (14, .iload 4, 2, 1, 4, 0, 0, 0, [], .null),
    (16, .invokevirtual 79, 3, 48, 15, 2, 0, 0, [1], .null),
    (19, .iadd, 1, 8, 0, 0, 0, 0, [], .null),
    (20, .istore_n 3, 1, 4, 3, 0, 0, 0, [], .null),
    (21, .iinc 4 1, 3, 7, 4, 0, 0, 0, [], .int 1),
    (24, .goto (-19), 3, 22, 5, 0, 0, 0, [], .null)]
def kX1_fairPart_27 : List Item := [(27, .iload_n 3, 1, 1, 3, 0, 0, 0, [], .null),
    (28, .ifCond .gt 5, 3, 20, 33, 4, 0, 0, [], .null),
    (31, .iconst 0, 1, 0, 0, 0, 0, 0, [], .int 0),
    (32, .ireturn, 1, 56, 0, 0, 0, 0, [], .null)]
def kX1_fairPart_33 : List Item := [(33, .iload_n 2, 1, 1, 2, 0, 0, 0, [], .null),
    (34, .aload_n 0, 1, 3, 0, 0, 0, 0, [], .null),
    (35, .iload_n 1, 1, 1, 1, 0, 0, 0, [], .null),
    (36, .invokevirtual 79, 3, 48, 15, 2, 0, 0, [1], .null),
    (39, .imul, 1, 8, 0, 2, 0, 0, [], .null),
    (40, .istore 4, 2, 4, 4, 0, 0, 0, [], .null),
    (42, .iload 4, 2, 1, 4, 0, 0, 0, [], .null),
    (44, .iload_n 3, 1, 1, 3, 0, 0, 0, [], .null),
    (45, .irem, 1, 9, 0, 1, 0, 0, [], .null),
    (46, .istore 5, 2, 4, 5, 0, 0, 0, [], .null),
    (48, .iload_n 2, 1, 1, 2, 0, 0, 0, [], .null),
    (49, .istore 6, 2, 4, 6, 0, 0, 0, [], .null),
    (51, .iconst 0, 1, 0, 0, 0, 0, 0, [], .int 0),
    (52, .istore 7, 2, 4, 7, 0, 0, 0, [], .null),
    (54, .iconst 0, 1, 0, 0, 0, 0, 0, [], .int 0),
    (55, .istore 8, 2, 4, 8, 0, 0, 0, [], .null),
    (57, .nop, 0, 60, 57, 0, 0, 0, [], .null)]
def kX1_fairPart_57 : List Item := [(57, .iload 8, 2, 1, 8, 0, 0, 0, [], .null),
    (59, .bipush 6, 2, 0, 0, 0, 0, 0, [], .int 6),
    (61, .if_icmp .ge 76, 3, 21, 137, 3, 0, 0, [], .null),
    (64, .iload_n 2, 1, 1, 2, 0, 0, 0, [], .null),
    (65, .aload_n 0, 1, 3, 0, 0, 0, 0, [], .null),
    (66, .iload 8, 2, 1, 8, 0, 0, 0, [], .null),
    (68, .invokevirtual 79, 3, 48, 15, 2, 0, 0, [1], .null),
    (71, .imul, 1, 8, 0, 2, 0, 0, [], .null),
    (72, .istore 9, 2, 4, 9, 0, 0, 0, [], .null),
    (74, .iload 9, 2, 1, 9, 0, 0, 0, [], .null),
    (76, .iload_n 3, 1, 1, 3, 0, 0, 0, [], .null),
    (77, .irem, 1, 9, 0, 1, 0, 0, [], .null),
    (78, .istore 10, 2, 4, 10, 0, 0, 0, [], .null),
    (80, .iload 6, 2, 1, 6, 0, 0, 0, [], .null),
    (82, .iload 9, 2, 1, 9, 0, 0, 0, [], .null),
    (84, .iload_n 3, 1, 1, 3, 0, 0, 0, [], .null),
    (85, .idiv, 1, 9, 0, 0, 0, 0, [], .null),
    (86, .isub, 1, 8, 0, 1, 0, 0, [], .null),
    (87, .istore 6, 2, 4, 6, 0, 0, 0, [], .null),
    (89, .iload 10, 2, 1, 10, 0, 0, 0, [], .null),
    (91, .iload 5, 2, 1, 5, 0, 0, 0, [], .null),
    (93, .if_icmp .ne 13, 3, 21, 106, 1, 0, 0, [], .null),
    (96, .iload 8, 2, 1, 8, 0, 0, 0, [], .null),
    (98, .iload_n 1, 1, 1, 1, 0, 0, 0, [], .null),
    (99, .if_icmp .ge 7, 3, 21, 106, 3, 0, 0, [], .null),
    (102, .iconst 1, 1, 0, 0, 0, 0, 0, [], .int 1),
    (103, .goto 4, 3, 22, 107, 0, 0, 0, [], .null)]
def kX1_fairPart_106 : List Item := [(106, .iconst 0, 1, 0, 0, 0, 0, 0, [], .int 0),
    (107, .istore 11, 2, 4, 11, 0, 0, 0, [], .null),
    (109, .iload 7, 2, 1, 7, 0, 0, 0, [], .null),
    (111, .iload 10, 2, 1, 10, 0, 0, 0, [], .null),
    (113, .iload 5, 2, 1, 5, 0, 0, 0, [], .null),
    (115, .if_icmp .gt 8, 3, 21, 123, 4, 0, 0, [], .null),
    (118, .iload 11, 2, 1, 11, 0, 0, 0, [], .null),
    (120, .ifCond .eq 7, 3, 20, 127, 0, 0, 0, [], .null),
    (123, .iconst 1, 1, 0, 0, 0, 0, 0, [], .int 1),
    (124, .goto 4, 3, 22, 128, 0, 0, 0, [], .null)]
def kX1_fairPart_107 : List Item := [(107, .istore 11, 2, 4, 11, 0, 0, 0, [], .null),
    (109, .iload 7, 2, 1, 7, 0, 0, 0, [], .null),
    (111, .iload 10, 2, 1, 10, 0, 0, 0, [], .null),
    (113, .iload 5, 2, 1, 5, 0, 0, 0, [], .null),
    (115, .if_icmp .gt 8, 3, 21, 123, 4, 0, 0, [], .null),
    (118, .iload 11, 2, 1, 11, 0, 0, 0, [], .null),
    (120, .ifCond .eq 7, 3, 20, 127, 0, 0, 0, [], .null),
    (123, .iconst 1, 1, 0, 0, 0, 0, 0, [], .int 1),
    (124, .goto 4, 3, 22, 128, 0, 0, 0, [], .null)]
def kX1_fairPart_123 : List Item := [(123, .iconst 1, 1, 0, 0, 0, 0, 0, [], .int 1),
    (124, .goto 4, 3, 22, 128, 0, 0, 0, [], .null)]
def kX1_fairPart_127 : List Item := [(127, .iconst 0, 1, 0, 0, 0, 0, 0, [], .int 0),
    (128, .iadd, 1, 8, 0, 0, 0, 0, [], .null),
    (129, .istore 7, 2, 4, 7, 0, 0, 0, [], .null),
    (131, .iinc 8 1, 3, 7, 8, 0, 0, 0, [], .int 1),
    (134, .goto (-77), 3, 22, 57, 0, 0, 0, [], .null)]
def kX1_fairPart_128 : List Item := [(128, .iadd, 1, 8, 0, 0, 0, 0, [], .null),
    (129, .istore 7, 2, 4, 7, 0, 0, 0, [], .null),
    (131, .iinc 8 1, 3, 7, 8, 0, 0, 0, [], .int 1),
    (134, .goto (-77), 3, 22, 57, 0, 0, 0, [], .null)]
def kX1_fairPart_137 : List Item := [(137, .iload 4, 2, 1, 4, 0, 0, 0, [], .null),
    (139, .iload_n 3, 1, 1, 3, 0, 0, 0, [], .null),
    (140, .idiv, 1, 9, 0, 0, 0, 0, [], .null),
    (141, .iload 7, 2, 1, 7, 0, 0, 0, [], .null),
    (143, .iload 6, 2, 1, 6, 0, 0, 0, [], .null),
    (145, .if_icmp .ge 7, 3, 21, 152, 3, 0, 0, [], .null),
    (148, .iconst 1, 1, 0, 0, 0, 0, 0, [], .int 1),
    (149, .goto 4, 3, 22, 153, 0, 0, 0, [], .null)]
def kX1_fairPart_152 : List Item := [(152, .iconst 0, 1, 0, 0, 0, 0, 0, [], .int 0),
    (153, .iadd, 1, 8, 0, 0, 0, 0, [], .null),
    (154, .ireturn, 1, 56, 0, 0, 0, 0, [], .null)]
def kX1_fairPart_153 : List Item := [(153, .iadd, 1, 8, 0, 0, 0, 0, [], .null),
    (154, .ireturn, 1, 56, 0, 0, 0, 0, [], .null)]
def kX1_fairPart : Code9 := [(0, kX1_fairPart_0), (5, kX1_fairPart_5), (27, kX1_fairPart_27), (33, kX1_fairPart_33), (57, kX1_fairPart_57), (106, kX1_fairPart_106), (107, kX1_fairPart_107), (123, kX1_fairPart_123), (127, kX1_fairPart_127), (128, kX1_fairPart_128), (137, kX1_fairPart_137), (152, kX1_fairPart_152), (153, kX1_fairPart_153)]
theorem rX1_fairPart_0 (sa : Nat → Nat) (E : Nat → Sem) (MC MS : Nat) (HX : Nat → Nat → Option Nat) (Q : Option Value → Mm → Prop) (X : Nat → Mm → Prop) (L : List Slot) (st : List Value) (M : Mm) (nc ns : Nat) : Run sa E MC MS HX Q X kX1_fairPart 0 L st M nc ns = bk sa E MC MS HX (Run sa E MC MS HX Q X kX1_fairPart) Q X kX1_fairPart_0 L st M nc ns := Run_eq sa E MC MS HX Q X _ _ _ _ _ _ _
theorem rX1_fairPart_5 (sa : Nat → Nat) (E : Nat → Sem) (MC MS : Nat) (HX : Nat → Nat → Option Nat) (Q : Option Value → Mm → Prop) (X : Nat → Mm → Prop) (L : List Slot) (st : List Value) (M : Mm) (nc ns : Nat) : Run sa E MC MS HX Q X kX1_fairPart 5 L st M nc ns = bk sa E MC MS HX (Run sa E MC MS HX Q X kX1_fairPart) Q X kX1_fairPart_5 L st M nc ns := Run_eq sa E MC MS HX Q X _ _ _ _ _ _ _
theorem rX1_fairPart_27 (sa : Nat → Nat) (E : Nat → Sem) (MC MS : Nat) (HX : Nat → Nat → Option Nat) (Q : Option Value → Mm → Prop) (X : Nat → Mm → Prop) (L : List Slot) (st : List Value) (M : Mm) (nc ns : Nat) : Run sa E MC MS HX Q X kX1_fairPart 27 L st M nc ns = bk sa E MC MS HX (Run sa E MC MS HX Q X kX1_fairPart) Q X kX1_fairPart_27 L st M nc ns := Run_eq sa E MC MS HX Q X _ _ _ _ _ _ _
theorem rX1_fairPart_33 (sa : Nat → Nat) (E : Nat → Sem) (MC MS : Nat) (HX : Nat → Nat → Option Nat) (Q : Option Value → Mm → Prop) (X : Nat → Mm → Prop) (L : List Slot) (st : List Value) (M : Mm) (nc ns : Nat) : Run sa E MC MS HX Q X kX1_fairPart 33 L st M nc ns = bk sa E MC MS HX (Run sa E MC MS HX Q X kX1_fairPart) Q X kX1_fairPart_33 L st M nc ns := Run_eq sa E MC MS HX Q X _ _ _ _ _ _ _
theorem rX1_fairPart_57 (sa : Nat → Nat) (E : Nat → Sem) (MC MS : Nat) (HX : Nat → Nat → Option Nat) (Q : Option Value → Mm → Prop) (X : Nat → Mm → Prop) (L : List Slot) (st : List Value) (M : Mm) (nc ns : Nat) : Run sa E MC MS HX Q X kX1_fairPart 57 L st M nc ns = bk sa E MC MS HX (Run sa E MC MS HX Q X kX1_fairPart) Q X kX1_fairPart_57 L st M nc ns := Run_eq sa E MC MS HX Q X _ _ _ _ _ _ _
theorem rX1_fairPart_106 (sa : Nat → Nat) (E : Nat → Sem) (MC MS : Nat) (HX : Nat → Nat → Option Nat) (Q : Option Value → Mm → Prop) (X : Nat → Mm → Prop) (L : List Slot) (st : List Value) (M : Mm) (nc ns : Nat) : Run sa E MC MS HX Q X kX1_fairPart 106 L st M nc ns = bk sa E MC MS HX (Run sa E MC MS HX Q X kX1_fairPart) Q X kX1_fairPart_106 L st M nc ns := Run_eq sa E MC MS HX Q X _ _ _ _ _ _ _
theorem rX1_fairPart_107 (sa : Nat → Nat) (E : Nat → Sem) (MC MS : Nat) (HX : Nat → Nat → Option Nat) (Q : Option Value → Mm → Prop) (X : Nat → Mm → Prop) (L : List Slot) (st : List Value) (M : Mm) (nc ns : Nat) : Run sa E MC MS HX Q X kX1_fairPart 107 L st M nc ns = bk sa E MC MS HX (Run sa E MC MS HX Q X kX1_fairPart) Q X kX1_fairPart_107 L st M nc ns := Run_eq sa E MC MS HX Q X _ _ _ _ _ _ _
theorem rX1_fairPart_123 (sa : Nat → Nat) (E : Nat → Sem) (MC MS : Nat) (HX : Nat → Nat → Option Nat) (Q : Option Value → Mm → Prop) (X : Nat → Mm → Prop) (L : List Slot) (st : List Value) (M : Mm) (nc ns : Nat) : Run sa E MC MS HX Q X kX1_fairPart 123 L st M nc ns = bk sa E MC MS HX (Run sa E MC MS HX Q X kX1_fairPart) Q X kX1_fairPart_123 L st M nc ns := Run_eq sa E MC MS HX Q X _ _ _ _ _ _ _
theorem rX1_fairPart_127 (sa : Nat → Nat) (E : Nat → Sem) (MC MS : Nat) (HX : Nat → Nat → Option Nat) (Q : Option Value → Mm → Prop) (X : Nat → Mm → Prop) (L : List Slot) (st : List Value) (M : Mm) (nc ns : Nat) : Run sa E MC MS HX Q X kX1_fairPart 127 L st M nc ns = bk sa E MC MS HX (Run sa E MC MS HX Q X kX1_fairPart) Q X kX1_fairPart_127 L st M nc ns := Run_eq sa E MC MS HX Q X _ _ _ _ _ _ _
theorem rX1_fairPart_128 (sa : Nat → Nat) (E : Nat → Sem) (MC MS : Nat) (HX : Nat → Nat → Option Nat) (Q : Option Value → Mm → Prop) (X : Nat → Mm → Prop) (L : List Slot) (st : List Value) (M : Mm) (nc ns : Nat) : Run sa E MC MS HX Q X kX1_fairPart 128 L st M nc ns = bk sa E MC MS HX (Run sa E MC MS HX Q X kX1_fairPart) Q X kX1_fairPart_128 L st M nc ns := Run_eq sa E MC MS HX Q X _ _ _ _ _ _ _
theorem rX1_fairPart_137 (sa : Nat → Nat) (E : Nat → Sem) (MC MS : Nat) (HX : Nat → Nat → Option Nat) (Q : Option Value → Mm → Prop) (X : Nat → Mm → Prop) (L : List Slot) (st : List Value) (M : Mm) (nc ns : Nat) : Run sa E MC MS HX Q X kX1_fairPart 137 L st M nc ns = bk sa E MC MS HX (Run sa E MC MS HX Q X kX1_fairPart) Q X kX1_fairPart_137 L st M nc ns := Run_eq sa E MC MS HX Q X _ _ _ _ _ _ _
theorem rX1_fairPart_152 (sa : Nat → Nat) (E : Nat → Sem) (MC MS : Nat) (HX : Nat → Nat → Option Nat) (Q : Option Value → Mm → Prop) (X : Nat → Mm → Prop) (L : List Slot) (st : List Value) (M : Mm) (nc ns : Nat) : Run sa E MC MS HX Q X kX1_fairPart 152 L st M nc ns = bk sa E MC MS HX (Run sa E MC MS HX Q X kX1_fairPart) Q X kX1_fairPart_152 L st M nc ns := Run_eq sa E MC MS HX Q X _ _ _ _ _ _ _
theorem rX1_fairPart_153 (sa : Nat → Nat) (E : Nat → Sem) (MC MS : Nat) (HX : Nat → Nat → Option Nat) (Q : Option Value → Mm → Prop) (X : Nat → Mm → Prop) (L : List Slot) (st : List Value) (M : Mm) (nc ns : Nat) : Run sa E MC MS HX Q X kX1_fairPart 153 L st M nc ns = bk sa E MC MS HX (Run sa E MC MS HX Q X kX1_fairPart) Q X kX1_fairPart_153 L st M nc ns := Run_eq sa E MC MS HX Q X _ _ _ _ _ _ _
def kX1_hasOpenGate_0 : List Item := [(0, .aload_n 0, 1, 3, 0, 0, 0, 0, [], .null),
    (1, .getfield 15, 3, 26, 1, 1, 0, 0, [], .null),
    (4, .iload_n 1, 1, 1, 1, 0, 0, 0, [], .null),
    (5, .iaload, 1, 31, 0, 0, 0, 0, [], .null),
    (6, .iload_n 2, 1, 1, 2, 0, 0, 0, [], .null),
    (7, .if_icmp .eq 12, 3, 21, 19, 0, 0, 0, [], .null),
    (10, .aload_n 0, 1, 3, 0, 0, 0, 0, [], .null),
    (11, .getfield 42, 3, 26, 1, 10, 0, 0, [], .null),
    (14, .iload_n 1, 1, 1, 1, 0, 0, 0, [], .null),
    (15, .baload, 1, 31, 1, 0, 0, 0, [], .null),
    (16, .ifCond .eq 7, 3, 20, 23, 0, 0, 0, [], .null),
    (19, .iconst 1, 1, 0, 0, 0, 0, 0, [], .int 1),
    (20, .goto 4, 3, 22, 24, 0, 0, 0, [], .null)]
def kX1_hasOpenGate_19 : List Item := [(19, .iconst 1, 1, 0, 0, 0, 0, 0, [], .int 1),
    (20, .goto 4, 3, 22, 24, 0, 0, 0, [], .null)]
def kX1_hasOpenGate_23 : List Item := [(23, .iconst 0, 1, 0, 0, 0, 0, 0, [], .int 0),
    (24, .ireturn, 1, 58, 0, 0, 0, 0, [], .null)]
def kX1_hasOpenGate_24 : List Item := [(24, .ireturn, 1, 58, 0, 0, 0, 0, [], .null)]
def kX1_hasOpenGate : Code9 := [(0, kX1_hasOpenGate_0), (19, kX1_hasOpenGate_19), (23, kX1_hasOpenGate_23), (24, kX1_hasOpenGate_24)]
theorem rX1_hasOpenGate_0 (sa : Nat → Nat) (E : Nat → Sem) (MC MS : Nat) (HX : Nat → Nat → Option Nat) (Q : Option Value → Mm → Prop) (X : Nat → Mm → Prop) (L : List Slot) (st : List Value) (M : Mm) (nc ns : Nat) : Run sa E MC MS HX Q X kX1_hasOpenGate 0 L st M nc ns = bk sa E MC MS HX (Run sa E MC MS HX Q X kX1_hasOpenGate) Q X kX1_hasOpenGate_0 L st M nc ns := Run_eq sa E MC MS HX Q X _ _ _ _ _ _ _
theorem rX1_hasOpenGate_19 (sa : Nat → Nat) (E : Nat → Sem) (MC MS : Nat) (HX : Nat → Nat → Option Nat) (Q : Option Value → Mm → Prop) (X : Nat → Mm → Prop) (L : List Slot) (st : List Value) (M : Mm) (nc ns : Nat) : Run sa E MC MS HX Q X kX1_hasOpenGate 19 L st M nc ns = bk sa E MC MS HX (Run sa E MC MS HX Q X kX1_hasOpenGate) Q X kX1_hasOpenGate_19 L st M nc ns := Run_eq sa E MC MS HX Q X _ _ _ _ _ _ _
theorem rX1_hasOpenGate_23 (sa : Nat → Nat) (E : Nat → Sem) (MC MS : Nat) (HX : Nat → Nat → Option Nat) (Q : Option Value → Mm → Prop) (X : Nat → Mm → Prop) (L : List Slot) (st : List Value) (M : Mm) (nc ns : Nat) : Run sa E MC MS HX Q X kX1_hasOpenGate 23 L st M nc ns = bk sa E MC MS HX (Run sa E MC MS HX Q X kX1_hasOpenGate) Q X kX1_hasOpenGate_23 L st M nc ns := Run_eq sa E MC MS HX Q X _ _ _ _ _ _ _
theorem rX1_hasOpenGate_24 (sa : Nat → Nat) (E : Nat → Sem) (MC MS : Nat) (HX : Nat → Nat → Option Nat) (Q : Option Value → Mm → Prop) (X : Nat → Mm → Prop) (L : List Slot) (st : List Value) (M : Mm) (nc ns : Nat) : Run sa E MC MS HX Q X kX1_hasOpenGate 24 L st M nc ns = bk sa E MC MS HX (Run sa E MC MS HX Q X kX1_hasOpenGate) Q X kX1_hasOpenGate_24 L st M nc ns := Run_eq sa E MC MS HX Q X _ _ _ _ _ _ _
def kX1_init_0 : List Item := [(0, .aload_n 0, 1, 3, 0, 0, 0, 0, [], .null),
    (1, .invokespecial 3, 3, 47, 0, 0, 0, 0, [], .null),
    (4, .aload_n 0, 1, 3, 0, 0, 0, 0, [], .null),
    (5, .bipush 12, 2, 0, 0, 0, 0, 0, [], .int 12),
    (7, .newarray .int, 2, 44, 0, 0, 0, 0, [], .null),
    (9, .putfield 9, 3, 29, 1, 0, 0, 0, [], .null),
    (12, .aload_n 0, 1, 3, 0, 0, 0, 0, [], .null),
    (13, .bipush 12, 2, 0, 0, 0, 0, 0, [], .int 12),
    (15, .newarray .int, 2, 44, 0, 0, 0, 0, [], .null),
    (17, .putfield 15, 3, 29, 1, 1, 0, 0, [], .null),
    (20, .aload_n 0, 1, 3, 0, 0, 0, 0, [], .null),
    (21, .bipush 12, 2, 0, 0, 0, 0, 0, [], .int 12),
    (23, .newarray .int, 2, 44, 0, 0, 0, 0, [], .null),
    (25, .putfield 18, 3, 29, 1, 2, 0, 0, [], .null),
    (28, .aload_n 0, 1, 3, 0, 0, 0, 0, [], .null),
    (29, .bipush 12, 2, 0, 0, 0, 0, 0, [], .int 12),
    (31, .newarray .int, 2, 44, 0, 0, 0, 0, [], .null),
    (33, .putfield 21, 3, 29, 1, 3, 0, 0, [], .null),
    (36, .aload_n 0, 1, 3, 0, 0, 0, 0, [], .null),
    (37, .bipush 12, 2, 0, 0, 0, 0, 0, [], .int 12),
    (39, .newarray .int, 2, 44, 0, 0, 0, 0, [], .null),
    (41, .putfield 24, 3, 29, 1, 4, 0, 0, [], .null),
    (44, .aload_n 0, 1, 3, 0, 0, 0, 0, [], .null),
    (45, .bipush 12, 2, 0, 0, 0, 0, 0, [], .int 12),
    (47, .newarray .int, 2, 44, 0, 0, 0, 0, [], .null),
    (49, .putfield 27, 3, 29, 1, 5, 0, 0, [], .null),
    (52, .aload_n 0, 1, 3, 0, 0, 0, 0, [], .null),
    (53, .bipush 12, 2, 0, 0, 0, 0, 0, [], .int 12),
    (55, .newarray .int, 2, 44, 0, 0, 0, 0, [], .null),
    (57, .putfield 30, 3, 29, 1, 6, 0, 0, [], .null),
    (60, .aload_n 0, 1, 3, 0, 0, 0, 0, [], .null),
    (61, .bipush 12, 2, 0, 0, 0, 0, 0, [], .int 12),
    (63, .newarray .int, 2, 44, 0, 0, 0, 0, [], .null),
    (65, .putfield 33, 3, 29, 1, 7, 0, 0, [], .null),
    (68, .aload_n 0, 1, 3, 0, 0, 0, 0, [], .null),
    (69, .bipush 12, 2, 0, 0, 0, 0, 0, [], .int 12),
    (71, .newarray .int, 2, 44, 0, 0, 0, 0, [], .null),
    (73, .putfield 36, 3, 29, 1, 8, 0, 0, [], .null),
    (76, .aload_n 0, 1, 3, 0, 0, 0, 0, [], .null),
    (77, .bipush 12, 2, 0, 0, 0, 0, 0, [], .int 12),
    (79, .newarray .int, 2, 44, 0, 0, 0, 0, [], .null),
    (81, .putfield 39, 3, 29, 1, 9, 0, 0, [], .null),
    (84, .aload_n 0, 1, 3, 0, 0, 0, 0, [], .null),
    (85, .bipush 12, 2, 0, 0, 0, 0, 0, [], .int 12),
    (87, .newarray .boolean, 2, 44, 1, 0, 0, 0, [], .null),
    (89, .putfield 42, 3, 29, 1, 10, 0, 0, [], .null),
    (92, .return_, 1, 55, 0, 0, 0, 0, [], .null)]
def kX1_init : Code9 := [(0, kX1_init_0)]
theorem rX1_init_0 (sa : Nat → Nat) (E : Nat → Sem) (MC MS : Nat) (HX : Nat → Nat → Option Nat) (Q : Option Value → Mm → Prop) (X : Nat → Mm → Prop) (L : List Slot) (st : List Value) (M : Mm) (nc ns : Nat) : Run sa E MC MS HX Q X kX1_init 0 L st M nc ns = bk sa E MC MS HX (Run sa E MC MS HX Q X kX1_init) Q X kX1_init_0 L st M nc ns := Run_eq sa E MC MS HX Q X _ _ _ _ _ _ _
def kX1_markOpenCanals_0 : List Item := [(0, .aload_n 1, 1, 3, 1, 0, 0, 0, [], .null),
    (1, .invokevirtual 54, 3, 48, 1, 1, 0, 0, [0], .null),
    (4, .iconst 0, 1, 0, 0, 0, 0, 0, [], .int 0),
    (5, .istore_n 3, 1, 4, 3, 0, 0, 0, [], .null),
    (6, .nop, 0, 60, 6, 0, 0, 0, [], .null)]
def kX1_markOpenCanals_6 : List Item := [(6, .iload_n 3, 1, 1, 3, 0, 0, 0, [], .null),
    (7, .aload_n 0, 1, 3, 0, 0, 0, 0, [], .null),
    (8, .getfield 50, 3, 24, 1, 11, 0, 0, [], .null),
    (11, .if_icmp .ge 28, 3, 21, 39, 3, 0, 0, [], .null),
    (14, .aload_n 0, 1, 3, 0, 0, 0, 0, [], .null),
    (15, .iload_n 3, 1, 1, 3, 0, 0, 0, [], .null),
    (16, .iload_n 2, 1, 1, 2, 0, 0, 0, [], .null),
    (17, .invokevirtual 59, 3, 48, 17, 3, 0, 0, [1], .null),
    (20, .ifCond .eq 13, 3, 20, 33, 0, 0, 0, [], .null),
    (23, .aload_n 1, 1, 3, 1, 0, 0, 0, [], .null),
    (24, .aload_n 0, 1, 3, 0, 0, 0, 0, [], .null),
    (25, .getfield 9, 3, 26, 1, 0, 0, 0, [], .null),
    (28, .iload_n 3, 1, 1, 3, 0, 0, 0, [], .null),
    (29, .iaload, 1, 31, 0, 0, 0, 0, [], .null),
    (30, .invokevirtual 63, 3, 48, 7, 2, 0, 0, [0], .null),
    (33, .iinc 3 1, 3, 7, 3, 0, 0, 0, [], .int 1),
    (36, .goto (-30), 3, 22, 6, 0, 0, 0, [], .null)]
def kX1_markOpenCanals_33 : List Item := [(33, .iinc 3 1, 3, 7, 3, 0, 0, 0, [], .int 1),
    (36, .goto (-30), 3, 22, 6, 0, 0, 0, [], .null)]
def kX1_markOpenCanals_39 : List Item := [(39, .aload_n 1, 1, 3, 1, 0, 0, 0, [], .null),
    (40, .invokevirtual 67, 3, 48, 8, 1, 0, 0, [0], .null),
    (43, .return_, 1, 55, 0, 0, 0, 0, [], .null)]
def kX1_markOpenCanals : Code9 := [(0, kX1_markOpenCanals_0), (6, kX1_markOpenCanals_6), (33, kX1_markOpenCanals_33), (39, kX1_markOpenCanals_39)]
theorem rX1_markOpenCanals_0 (sa : Nat → Nat) (E : Nat → Sem) (MC MS : Nat) (HX : Nat → Nat → Option Nat) (Q : Option Value → Mm → Prop) (X : Nat → Mm → Prop) (L : List Slot) (st : List Value) (M : Mm) (nc ns : Nat) : Run sa E MC MS HX Q X kX1_markOpenCanals 0 L st M nc ns = bk sa E MC MS HX (Run sa E MC MS HX Q X kX1_markOpenCanals) Q X kX1_markOpenCanals_0 L st M nc ns := Run_eq sa E MC MS HX Q X _ _ _ _ _ _ _
theorem rX1_markOpenCanals_6 (sa : Nat → Nat) (E : Nat → Sem) (MC MS : Nat) (HX : Nat → Nat → Option Nat) (Q : Option Value → Mm → Prop) (X : Nat → Mm → Prop) (L : List Slot) (st : List Value) (M : Mm) (nc ns : Nat) : Run sa E MC MS HX Q X kX1_markOpenCanals 6 L st M nc ns = bk sa E MC MS HX (Run sa E MC MS HX Q X kX1_markOpenCanals) Q X kX1_markOpenCanals_6 L st M nc ns := Run_eq sa E MC MS HX Q X _ _ _ _ _ _ _
theorem rX1_markOpenCanals_33 (sa : Nat → Nat) (E : Nat → Sem) (MC MS : Nat) (HX : Nat → Nat → Option Nat) (Q : Option Value → Mm → Prop) (X : Nat → Mm → Prop) (L : List Slot) (st : List Value) (M : Mm) (nc ns : Nat) : Run sa E MC MS HX Q X kX1_markOpenCanals 33 L st M nc ns = bk sa E MC MS HX (Run sa E MC MS HX Q X kX1_markOpenCanals) Q X kX1_markOpenCanals_33 L st M nc ns := Run_eq sa E MC MS HX Q X _ _ _ _ _ _ _
theorem rX1_markOpenCanals_39 (sa : Nat → Nat) (E : Nat → Sem) (MC MS : Nat) (HX : Nat → Nat → Option Nat) (Q : Option Value → Mm → Prop) (X : Nat → Mm → Prop) (L : List Slot) (st : List Value) (M : Mm) (nc ns : Nat) : Run sa E MC MS HX Q X kX1_markOpenCanals 39 L st M nc ns = bk sa E MC MS HX (Run sa E MC MS HX Q X kX1_markOpenCanals) Q X kX1_markOpenCanals_39 L st M nc ns := Run_eq sa E MC MS HX Q X _ _ _ _ _ _ _
def kX1_meetsDemand_0 : List Item := [(0, .aload_n 0, 1, 3, 0, 0, 0, 0, [], .null),
    (1, .getfield 33, 3, 26, 1, 7, 0, 0, [], .null),
    (4, .iload_n 1, 1, 1, 1, 0, 0, 0, [], .null),
    (5, .iaload, 1, 31, 0, 0, 0, 0, [], .null),
    (6, .aload_n 0, 1, 3, 0, 0, 0, 0, [], .null),
    (7, .getfield 21, 3, 26, 1, 3, 0, 0, [], .null),
    (10, .iload_n 1, 1, 1, 1, 0, 0, 0, [], .null),
    (11, .iaload, 1, 31, 0, 0, 0, 0, [], .null),
    (12, .if_icmp .lt 7, 3, 21, 19, 2, 0, 0, [], .null),
    (15, .iconst 1, 1, 0, 0, 0, 0, 0, [], .int 1),
    (16, .goto 4, 3, 22, 20, 0, 0, 0, [], .null)]
def kX1_meetsDemand_19 : List Item := [(19, .iconst 0, 1, 0, 0, 0, 0, 0, [], .int 0),
    (20, .ireturn, 1, 58, 0, 0, 0, 0, [], .null)]
def kX1_meetsDemand_20 : List Item := [(20, .ireturn, 1, 58, 0, 0, 0, 0, [], .null)]
def kX1_meetsDemand : Code9 := [(0, kX1_meetsDemand_0), (19, kX1_meetsDemand_19), (20, kX1_meetsDemand_20)]
theorem rX1_meetsDemand_0 (sa : Nat → Nat) (E : Nat → Sem) (MC MS : Nat) (HX : Nat → Nat → Option Nat) (Q : Option Value → Mm → Prop) (X : Nat → Mm → Prop) (L : List Slot) (st : List Value) (M : Mm) (nc ns : Nat) : Run sa E MC MS HX Q X kX1_meetsDemand 0 L st M nc ns = bk sa E MC MS HX (Run sa E MC MS HX Q X kX1_meetsDemand) Q X kX1_meetsDemand_0 L st M nc ns := Run_eq sa E MC MS HX Q X _ _ _ _ _ _ _
theorem rX1_meetsDemand_19 (sa : Nat → Nat) (E : Nat → Sem) (MC MS : Nat) (HX : Nat → Nat → Option Nat) (Q : Option Value → Mm → Prop) (X : Nat → Mm → Prop) (L : List Slot) (st : List Value) (M : Mm) (nc ns : Nat) : Run sa E MC MS HX Q X kX1_meetsDemand 19 L st M nc ns = bk sa E MC MS HX (Run sa E MC MS HX Q X kX1_meetsDemand) Q X kX1_meetsDemand_19 L st M nc ns := Run_eq sa E MC MS HX Q X _ _ _ _ _ _ _
theorem rX1_meetsDemand_20 (sa : Nat → Nat) (E : Nat → Sem) (MC MS : Nat) (HX : Nat → Nat → Option Nat) (Q : Option Value → Mm → Prop) (X : Nat → Mm → Prop) (L : List Slot) (st : List Value) (M : Mm) (nc ns : Nat) : Run sa E MC MS HX Q X kX1_meetsDemand 20 L st M nc ns = bk sa E MC MS HX (Run sa E MC MS HX Q X kX1_meetsDemand) Q X kX1_meetsDemand_20 L st M nc ns := Run_eq sa E MC MS HX Q X _ _ _ _ _ _ _
def kX1_overflow_0 : List Item := [(0, .iconst 0, 1, 0, 0, 0, 0, 0, [], .int 0),
    (1, .aload_n 0, 1, 3, 0, 0, 0, 0, [], .null),
    (2, .getfield 33, 3, 26, 1, 7, 0, 0, [], .null),
    (5, .iload_n 1, 1, 1, 1, 0, 0, 0, [], .null),
    (6, .iaload, 1, 31, 0, 0, 0, 0, [], .null),
    (7, .aload_n 0, 1, 3, 0, 0, 0, 0, [], .null),
    (8, .getfield 24, 3, 26, 1, 4, 0, 0, [], .null),
    (11, .iload_n 1, 1, 1, 1, 0, 0, 0, [], .null),
    (12, .iaload, 1, 31, 0, 0, 0, 0, [], .null),
    (13, .isub, 1, 8, 0, 1, 0, 0, [], .null),
    (14, .invokestatic 76, 3, 50, 0, 0, 0, 0, [], .null),
    (17, .istore_n 2, 1, 4, 2, 0, 0, 0, [], .null),
    (18, .aload_n 0, 1, 3, 0, 0, 0, 0, [], .null),
    (19, .getfield 33, 3, 26, 1, 7, 0, 0, [], .null),
    (22, .iload_n 1, 1, 1, 1, 0, 0, 0, [], .null),
    (23, .dup2, 1, 17, 0, 0, 0, 0, [], .null),
    (24, .iaload, 1, 31, 0, 0, 0, 0, [], .null),
    (25, .iload_n 2, 1, 1, 2, 0, 0, 0, [], .null),
    (26, .isub, 1, 8, 0, 1, 0, 0, [], .null),
    (27, .iastore, 1, 35, 0, 0, 0, 0, [], .null),
    (28, .aload_n 0, 1, 3, 0, 0, 0, 0, [], .null),
    (29, .getfield 30, 3, 26, 1, 6, 0, 0, [], .null),
    (32, .iload_n 1, 1, 1, 1, 0, 0, 0, [], .null),
    (33, .iaload, 1, 31, 0, 0, 0, 0, [], .null),
    (34, .istore_n 3, 1, 4, 3, 0, 0, 0, [], .null),
    (35, .iload_n 3, 1, 1, 3, 0, 0, 0, [], .null),
    (36, .ifCond .lt 8, 3, 20, 44, 2, 0, 0, [], .null),
    (39, .iload_n 3, 1, 1, 3, 0, 0, 0, [], .null),
    (40, .iload_n 1, 1, 1, 1, 0, 0, 0, [], .null),
    (41, .if_icmp .lt 5, 3, 21, 46, 2, 0, 0, [], .null),
    (44, .iload_n 2, 1, 1, 2, 0, 0, 0, [], .null),
    (45, .ireturn, 1, 56, 0, 0, 0, 0, [], .null)]
def kX1_overflow_44 : List Item := [(44, .iload_n 2, 1, 1, 2, 0, 0, 0, [], .null),
    (45, .ireturn, 1, 56, 0, 0, 0, 0, [], .null)]
def kX1_overflow_46 : List Item := [(46, .aload_n 0, 1, 3, 0, 0, 0, 0, [], .null),
    (47, .getfield 33, 3, 26, 1, 7, 0, 0, [], .null),
    (50, .iload_n 3, 1, 1, 3, 0, 0, 0, [], .null),
    (51, .dup2, 1, 17, 0, 0, 0, 0, [], .null),
    (52, .iaload, 1, 31, 0, 0, 0, 0, [], .null),
    (53, .iload_n 2, 1, 1, 2, 0, 0, 0, [], .null),
    (54, .iadd, 1, 8, 0, 0, 0, 0, [], .null),
    (55, .iastore, 1, 35, 0, 0, 0, 0, [], .null),
    (56, .iconst 0, 1, 0, 0, 0, 0, 0, [], .int 0),
    (57, .ireturn, 1, 56, 0, 0, 0, 0, [], .null)]
def kX1_overflow : Code9 := [(0, kX1_overflow_0), (44, kX1_overflow_44), (46, kX1_overflow_46)]
theorem rX1_overflow_0 (sa : Nat → Nat) (E : Nat → Sem) (MC MS : Nat) (HX : Nat → Nat → Option Nat) (Q : Option Value → Mm → Prop) (X : Nat → Mm → Prop) (L : List Slot) (st : List Value) (M : Mm) (nc ns : Nat) : Run sa E MC MS HX Q X kX1_overflow 0 L st M nc ns = bk sa E MC MS HX (Run sa E MC MS HX Q X kX1_overflow) Q X kX1_overflow_0 L st M nc ns := Run_eq sa E MC MS HX Q X _ _ _ _ _ _ _
theorem rX1_overflow_44 (sa : Nat → Nat) (E : Nat → Sem) (MC MS : Nat) (HX : Nat → Nat → Option Nat) (Q : Option Value → Mm → Prop) (X : Nat → Mm → Prop) (L : List Slot) (st : List Value) (M : Mm) (nc ns : Nat) : Run sa E MC MS HX Q X kX1_overflow 44 L st M nc ns = bk sa E MC MS HX (Run sa E MC MS HX Q X kX1_overflow) Q X kX1_overflow_44 L st M nc ns := Run_eq sa E MC MS HX Q X _ _ _ _ _ _ _
theorem rX1_overflow_46 (sa : Nat → Nat) (E : Nat → Sem) (MC MS : Nat) (HX : Nat → Nat → Option Nat) (Q : Option Value → Mm → Prop) (X : Nat → Mm → Prop) (L : List Slot) (st : List Value) (M : Mm) (nc ns : Nat) : Run sa E MC MS HX Q X kX1_overflow 46 L st M nc ns = bk sa E MC MS HX (Run sa E MC MS HX Q X kX1_overflow) Q X kX1_overflow_46 L st M nc ns := Run_eq sa E MC MS HX Q X _ _ _ _ _ _ _
def kX1_seepAway_0 : List Item := [(0, .aload_n 0, 1, 3, 0, 0, 0, 0, [], .null),
    (1, .getfield 27, 3, 26, 1, 5, 0, 0, [], .null),
    (4, .iload_n 1, 1, 1, 1, 0, 0, 0, [], .null),
    (5, .iaload, 1, 31, 0, 0, 0, 0, [], .null),
    (6, .aload_n 0, 1, 3, 0, 0, 0, 0, [], .null),
    (7, .getfield 33, 3, 26, 1, 7, 0, 0, [], .null),
    (10, .iload_n 1, 1, 1, 1, 0, 0, 0, [], .null),
    (11, .iaload, 1, 31, 0, 0, 0, 0, [], .null),
    (12, .invokestatic 70, 3, 49, 0, 0, 0, 0, [], .null),
    (15, .istore_n 2, 1, 4, 2, 0, 0, 0, [], .null),
    (16, .aload_n 0, 1, 3, 0, 0, 0, 0, [], .null),
    (17, .getfield 33, 3, 26, 1, 7, 0, 0, [], .null),
    (20, .iload_n 1, 1, 1, 1, 0, 0, 0, [], .null),
    (21, .dup2, 1, 17, 0, 0, 0, 0, [], .null),
    (22, .iaload, 1, 31, 0, 0, 0, 0, [], .null),
    (23, .iload_n 2, 1, 1, 2, 0, 0, 0, [], .null),
    (24, .isub, 1, 8, 0, 1, 0, 0, [], .null),
    (25, .iastore, 1, 35, 0, 0, 0, 0, [], .null),
    (26, .iload_n 2, 1, 1, 2, 0, 0, 0, [], .null),
    (27, .ireturn, 1, 56, 0, 0, 0, 0, [], .null)]
def kX1_seepAway : Code9 := [(0, kX1_seepAway_0)]
theorem rX1_seepAway_0 (sa : Nat → Nat) (E : Nat → Sem) (MC MS : Nat) (HX : Nat → Nat → Option Nat) (Q : Option Value → Mm → Prop) (X : Nat → Mm → Prop) (L : List Slot) (st : List Value) (M : Mm) (nc ns : Nat) : Run sa E MC MS HX Q X kX1_seepAway 0 L st M nc ns = bk sa E MC MS HX (Run sa E MC MS HX Q X kX1_seepAway) Q X kX1_seepAway_0 L st M nc ns := Run_eq sa E MC MS HX Q X _ _ _ _ _ _ _
def kX1_takeFrom_0 : List Item := [(0, .iload_n 2, 1, 1, 2, 0, 0, 0, [], .null),
    (1, .istore 4, 2, 4, 4, 0, 0, 0, [], .null),
    (3, .iconst 0, 1, 0, 0, 0, 0, 0, [], .int 0),
    (4, .istore 5, 2, 4, 5, 0, 0, 0, [], .null),
    (6, .nop, 0, 60, 6, 0, 0, 0, [], .null)]
def kX1_takeFrom_6 : List Item := [(6, .iload 5, 2, 1, 5, 0, 0, 0, [], .null),
    (8, .aload_n 0, 1, 3, 0, 0, 0, 0, [], .null),
    (9, .getfield 50, 3, 24, 1, 11, 0, 0, [], .null),
    (12, .if_icmp .ge 102, 3, 21, 114, 3, 0, 0, [], .null),
    (15, .aload_n 0, 1, 3, 0, 0, 0, 0, [], .null),
    (16, .getfield 9, 3, 26, 1, 0, 0, 0, [], .null),
    (19, .iload 5, 2, 1, 5, 0, 0, 0, [], .null),
    (21, .iaload, 1, 31, 0, 0, 0, 0, [], .null),
    (22, .iload_n 1, 1, 1, 1, 0, 0, 0, [], .null),
    (23, .if_icmp .ne 85, 3, 21, 108, 1, 0, 0, [], .null),
    (26, .aload_n 0, 1, 3, 0, 0, 0, 0, [], .null),
    (27, .iload 5, 2, 1, 5, 0, 0, 0, [], .null),
    (29, .iload_n 3, 1, 1, 3, 0, 0, 0, [], .null),
    (30, .invokevirtual 59, 3, 48, 17, 3, 0, 0, [1], .null),
    (33, .ifCond .eq 75, 3, 20, 108, 0, 0, 0, [], .null),
    (36, .aload_n 0, 1, 3, 0, 0, 0, 0, [], .null),
    (37, .getfield 18, 3, 26, 1, 2, 0, 0, [], .null),
    (40, .iload 5, 2, 1, 5, 0, 0, 0, [], .null),
    (42, .iaload, 1, 31, 0, 0, 0, 0, [], .null),
    (43, .iload 4, 2, 1, 4, 0, 0, 0, [], .null),
    (45, .invokestatic 70, 3, 49, 0, 0, 0, 0, [], .null),
    (48, .istore 6, 2, 4, 6, 0, 0, 0, [], .null),
    (50, .iload 4, 2, 1, 4, 0, 0, 0, [], .null),
    (52, .iload 6, 2, 1, 6, 0, 0, 0, [], .null),
    (54, .isub, 1, 8, 0, 1, 0, 0, [], .null),
    (55, .istore 4, 2, 4, 4, 0, 0, 0, [], .null),
    (57, .aload_n 0, 1, 3, 0, 0, 0, 0, [], .null),
    (58, .getfield 33, 3, 26, 1, 7, 0, 0, [], .null),
    (61, .iload 5, 2, 1, 5, 0, 0, 0, [], .null),
    (63, .dup2, 1, 17, 0, 0, 0, 0, [], .null),
    (64, .iaload, 1, 31, 0, 0, 0, 0, [], .null),
    (65, .iload 6, 2, 1, 6, 0, 0, 0, [], .null),
    (67, .iadd, 1, 8, 0, 0, 0, 0, [], .null),
    (68, .iastore, 1, 35, 0, 0, 0, 0, [], .null),
    (69, .aload_n 0, 1, 3, 0, 0, 0, 0, [], .null),
    (70, .getfield 36, 3, 26, 1, 8, 0, 0, [], .null),
    (73, .iload 5, 2, 1, 5, 0, 0, 0, [], .null),
    (75, .dup2, 1, 17, 0, 0, 0, 0, [], .null),
    (76, .iaload, 1, 31, 0, 0, 0, 0, [], .null),
    (77, .iload 6, 2, 1, 6, 0, 0, 0, [], .null),
    (79, .iadd, 1, 8, 0, 0, 0, 0, [], .null),
    (80, .iastore, 1, 35, 0, 0, 0, 0, [], .null),
    (81, .aload_n 0, 1, 3, 0, 0, 0, 0, [], .null),
    (82, .getfield 39, 3, 26, 1, 9, 0, 0, [], .null),
    (85, .iload 5, 2, 1, 5, 0, 0, 0, [], .null),
    (87, .dup2, 1, 17, 0, 0, 0, 0, [], .null),
    (88, .iaload, 1, 31, 0, 0, 0, 0, [], .null),
    (89, .aload_n 0, 1, 3, 0, 0, 0, 0, [], .null),
    (90, .getfield 15, 3, 26, 1, 1, 0, 0, [], .null),
    (93, .iload 5, 2, 1, 5, 0, 0, 0, [], .null),
    (95, .iaload, 1, 31, 0, 0, 0, 0, [], .null),
    (96, .iload_n 3, 1, 1, 3, 0, 0, 0, [], .null),
    (97, .if_icmp .ne 7, 3, 21, 104, 1, 0, 0, [], .null),
    (100, .iconst 0, 1, 0, 0, 0, 0, 0, [], .int 0),
    (101, .goto 5, 3, 22, 106, 0, 0, 0, [], .null)]
def kX1_takeFrom_104 : List Item := [(104, .iload 6, 2, 1, 6, 0, 0, 0, [], .null),
    (106, .iadd, 1, 8, 0, 0, 0, 0, [], .null),
    (107, .iastore, 1, 35, 0, 0, 0, 0, [], .null),
    (108, .iinc 5 1, 3, 7, 5, 0, 0, 0, [], .int 1),
    (111, .goto (-105), 3, 22, 6, 0, 0, 0, [], .null)]
def kX1_takeFrom_106 : List Item := [(106, .iadd, 1, 8, 0, 0, 0, 0, [], .null),
    (107, .iastore, 1, 35, 0, 0, 0, 0, [], .null),
    (108, .iinc 5 1, 3, 7, 5, 0, 0, 0, [], .int 1),
    (111, .goto (-105), 3, 22, 6, 0, 0, 0, [], .null)]
def kX1_takeFrom_108 : List Item := [(108, .iinc 5 1, 3, 7, 5, 0, 0, 0, [], .int 1),
    (111, .goto (-105), 3, 22, 6, 0, 0, 0, [], .null)]
def kX1_takeFrom_114 : List Item := [(114, .iload 4, 2, 1, 4, 0, 0, 0, [], .null),
    (116, .ireturn, 1, 56, 0, 0, 0, 0, [], .null)]
def kX1_takeFrom : Code9 := [(0, kX1_takeFrom_0), (6, kX1_takeFrom_6), (104, kX1_takeFrom_104), (106, kX1_takeFrom_106), (108, kX1_takeFrom_108), (114, kX1_takeFrom_114)]
theorem rX1_takeFrom_0 (sa : Nat → Nat) (E : Nat → Sem) (MC MS : Nat) (HX : Nat → Nat → Option Nat) (Q : Option Value → Mm → Prop) (X : Nat → Mm → Prop) (L : List Slot) (st : List Value) (M : Mm) (nc ns : Nat) : Run sa E MC MS HX Q X kX1_takeFrom 0 L st M nc ns = bk sa E MC MS HX (Run sa E MC MS HX Q X kX1_takeFrom) Q X kX1_takeFrom_0 L st M nc ns := Run_eq sa E MC MS HX Q X _ _ _ _ _ _ _
theorem rX1_takeFrom_6 (sa : Nat → Nat) (E : Nat → Sem) (MC MS : Nat) (HX : Nat → Nat → Option Nat) (Q : Option Value → Mm → Prop) (X : Nat → Mm → Prop) (L : List Slot) (st : List Value) (M : Mm) (nc ns : Nat) : Run sa E MC MS HX Q X kX1_takeFrom 6 L st M nc ns = bk sa E MC MS HX (Run sa E MC MS HX Q X kX1_takeFrom) Q X kX1_takeFrom_6 L st M nc ns := Run_eq sa E MC MS HX Q X _ _ _ _ _ _ _
theorem rX1_takeFrom_104 (sa : Nat → Nat) (E : Nat → Sem) (MC MS : Nat) (HX : Nat → Nat → Option Nat) (Q : Option Value → Mm → Prop) (X : Nat → Mm → Prop) (L : List Slot) (st : List Value) (M : Mm) (nc ns : Nat) : Run sa E MC MS HX Q X kX1_takeFrom 104 L st M nc ns = bk sa E MC MS HX (Run sa E MC MS HX Q X kX1_takeFrom) Q X kX1_takeFrom_104 L st M nc ns := Run_eq sa E MC MS HX Q X _ _ _ _ _ _ _
theorem rX1_takeFrom_106 (sa : Nat → Nat) (E : Nat → Sem) (MC MS : Nat) (HX : Nat → Nat → Option Nat) (Q : Option Value → Mm → Prop) (X : Nat → Mm → Prop) (L : List Slot) (st : List Value) (M : Mm) (nc ns : Nat) : Run sa E MC MS HX Q X kX1_takeFrom 106 L st M nc ns = bk sa E MC MS HX (Run sa E MC MS HX Q X kX1_takeFrom) Q X kX1_takeFrom_106 L st M nc ns := Run_eq sa E MC MS HX Q X _ _ _ _ _ _ _
theorem rX1_takeFrom_108 (sa : Nat → Nat) (E : Nat → Sem) (MC MS : Nat) (HX : Nat → Nat → Option Nat) (Q : Option Value → Mm → Prop) (X : Nat → Mm → Prop) (L : List Slot) (st : List Value) (M : Mm) (nc ns : Nat) : Run sa E MC MS HX Q X kX1_takeFrom 108 L st M nc ns = bk sa E MC MS HX (Run sa E MC MS HX Q X kX1_takeFrom) Q X kX1_takeFrom_108 L st M nc ns := Run_eq sa E MC MS HX Q X _ _ _ _ _ _ _
theorem rX1_takeFrom_114 (sa : Nat → Nat) (E : Nat → Sem) (MC MS : Nat) (HX : Nat → Nat → Option Nat) (Q : Option Value → Mm → Prop) (X : Nat → Mm → Prop) (L : List Slot) (st : List Value) (M : Mm) (nc ns : Nat) : Run sa E MC MS HX Q X kX1_takeFrom 114 L st M nc ns = bk sa E MC MS HX (Run sa E MC MS HX Q X kX1_takeFrom) Q X kX1_takeFrom_114 L st M nc ns := Run_eq sa E MC MS HX Q X _ _ _ _ _ _ _
def kX1_waterInAll_0 : List Item := [(0, .lconst 0, 1, 0, 0, 0, 0, 0, [], .long 0),
    (1, .lstore_n 1, 1, 6, 1, 0, 0, 0, [], .null),
    (2, .iconst 0, 1, 0, 0, 0, 0, 0, [], .int 0),
    (3, .istore_n 3, 1, 4, 3, 0, 0, 0, [], .null),
    (4, .nop, 0, 60, 4, 0, 0, 0, [], .null)]
def kX1_waterInAll_4 : List Item := [(4, .iload_n 3, 1, 1, 3, 0, 0, 0, [], .null),
    (5, .aload_n 0, 1, 3, 0, 0, 0, 0, [], .null),
    (6, .getfield 50, 3, 24, 1, 11, 0, 0, [], .null),
    (9, .if_icmp .ge 19, 3, 21, 28, 3, 0, 0, [], .null),
    (12, .lload_n 1, 1, 2, 1, 0, 0, 0, [], .null),
    (13, .aload_n 0, 1, 3, 0, 0, 0, 0, [], .null),
    (14, .getfield 33, 3, 26, 1, 7, 0, 0, [], .null),
    (17, .iload_n 3, 1, 1, 3, 0, 0, 0, [], .null),
    (18, .iaload, 1, 31, 0, 0, 0, 0, [], .null),
    (19, .i2l, 1, 12, 0, 0, 0, 0, [], .null),
    (20, .ladd, 1, 10, 0, 0, 0, 0, [], .null),
    (21, .lstore_n 1, 1, 6, 1, 0, 0, 0, [], .null),
    (22, .iinc 3 1, 3, 7, 3, 0, 0, 0, [], .int 1),
    (25, .goto (-21), 3, 22, 4, 0, 0, 0, [], .null)]
def kX1_waterInAll_28 : List Item := [(28, .lload_n 1, 1, 2, 1, 0, 0, 0, [], .null),
    (29, .lreturn, 1, 57, 0, 0, 0, 0, [], .null)]
def kX1_waterInAll : Code9 := [(0, kX1_waterInAll_0), (4, kX1_waterInAll_4), (28, kX1_waterInAll_28)]
theorem rX1_waterInAll_0 (sa : Nat → Nat) (E : Nat → Sem) (MC MS : Nat) (HX : Nat → Nat → Option Nat) (Q : Option Value → Mm → Prop) (X : Nat → Mm → Prop) (L : List Slot) (st : List Value) (M : Mm) (nc ns : Nat) : Run sa E MC MS HX Q X kX1_waterInAll 0 L st M nc ns = bk sa E MC MS HX (Run sa E MC MS HX Q X kX1_waterInAll) Q X kX1_waterInAll_0 L st M nc ns := Run_eq sa E MC MS HX Q X _ _ _ _ _ _ _
theorem rX1_waterInAll_4 (sa : Nat → Nat) (E : Nat → Sem) (MC MS : Nat) (HX : Nat → Nat → Option Nat) (Q : Option Value → Mm → Prop) (X : Nat → Mm → Prop) (L : List Slot) (st : List Value) (M : Mm) (nc ns : Nat) : Run sa E MC MS HX Q X kX1_waterInAll 4 L st M nc ns = bk sa E MC MS HX (Run sa E MC MS HX Q X kX1_waterInAll) Q X kX1_waterInAll_4 L st M nc ns := Run_eq sa E MC MS HX Q X _ _ _ _ _ _ _
theorem rX1_waterInAll_28 (sa : Nat → Nat) (E : Nat → Sem) (MC MS : Nat) (HX : Nat → Nat → Option Nat) (Q : Option Value → Mm → Prop) (X : Nat → Mm → Prop) (L : List Slot) (st : List Value) (M : Mm) (nc ns : Nat) : Run sa E MC MS HX Q X kX1_waterInAll 28 L st M nc ns = bk sa E MC MS HX (Run sa E MC MS HX Q X kX1_waterInAll) Q X kX1_waterInAll_28 L st M nc ns := Run_eq sa E MC MS HX Q X _ _ _ _ _ _ _
def kX2_add_0 : List Item := [(0, .aload_n 0, 1, 3, 0, 0, 0, 0, [], .null),
    (1, .getfield 19, 3, 24, 2, 2, 0, 0, [], .null),
    (4, .aload_n 0, 1, 3, 0, 0, 0, 0, [], .null),
    (5, .getfield 9, 3, 26, 2, 0, 0, 0, [], .null),
    (8, .arraylength, 1, 42, 0, 0, 0, 0, [], .null),
    (9, .if_icmp .ge 23, 3, 21, 32, 3, 0, 0, [], .null),
    (12, .aload_n 0, 1, 3, 0, 0, 0, 0, [], .null),
    (13, .getfield 9, 3, 26, 2, 0, 0, 0, [], .null),
    (16, .aload_n 0, 1, 3, 0, 0, 0, 0, [], .null),
    (17, .getfield 19, 3, 24, 2, 2, 0, 0, [], .null),
    (20, .iload_n 1, 1, 1, 1, 0, 0, 0, [], .null),
    (21, .iastore, 1, 35, 0, 0, 0, 0, [], .null),
    (22, .aload_n 0, 1, 3, 0, 0, 0, 0, [], .null),
    (23, .dup, 1, 16, 0, 0, 0, 0, [], .null),
    (24, .getfield 19, 3, 24, 2, 2, 0, 0, [], .null),
    (27, .iconst 1, 1, 0, 0, 0, 0, 0, [], .int 1),
    (28, .iadd, 1, 8, 0, 0, 0, 0, [], .null),
    (29, .putfield 19, 3, 27, 2, 2, 0, 0, [], .null),
    (32, .return_, 1, 55, 0, 0, 0, 0, [], .null)]
def kX2_add_32 : List Item := [(32, .return_, 1, 55, 0, 0, 0, 0, [], .null)]
def kX2_add : Code9 := [(0, kX2_add_0), (32, kX2_add_32)]
theorem rX2_add_0 (sa : Nat → Nat) (E : Nat → Sem) (MC MS : Nat) (HX : Nat → Nat → Option Nat) (Q : Option Value → Mm → Prop) (X : Nat → Mm → Prop) (L : List Slot) (st : List Value) (M : Mm) (nc ns : Nat) : Run sa E MC MS HX Q X kX2_add 0 L st M nc ns = bk sa E MC MS HX (Run sa E MC MS HX Q X kX2_add) Q X kX2_add_0 L st M nc ns := Run_eq sa E MC MS HX Q X _ _ _ _ _ _ _
theorem rX2_add_32 (sa : Nat → Nat) (E : Nat → Sem) (MC MS : Nat) (HX : Nat → Nat → Option Nat) (Q : Option Value → Mm → Prop) (X : Nat → Mm → Prop) (L : List Slot) (st : List Value) (M : Mm) (nc ns : Nat) : Run sa E MC MS HX Q X kX2_add 32 L st M nc ns = bk sa E MC MS HX (Run sa E MC MS HX Q X kX2_add) Q X kX2_add_32 L st M nc ns := Run_eq sa E MC MS HX Q X _ _ _ _ _ _ _
def kX2_clear_0 : List Item := [(0, .aload_n 0, 1, 3, 0, 0, 0, 0, [], .null),
    (1, .iconst 0, 1, 0, 0, 0, 0, 0, [], .int 0),
    (2, .putfield 19, 3, 27, 2, 2, 0, 0, [], .null),
    (5, .return_, 1, 55, 0, 0, 0, 0, [], .null)]
def kX2_clear : Code9 := [(0, kX2_clear_0)]
theorem rX2_clear_0 (sa : Nat → Nat) (E : Nat → Sem) (MC MS : Nat) (HX : Nat → Nat → Option Nat) (Q : Option Value → Mm → Prop) (X : Nat → Mm → Prop) (L : List Slot) (st : List Value) (M : Mm) (nc ns : Nat) : Run sa E MC MS HX Q X kX2_clear 0 L st M nc ns = bk sa E MC MS HX (Run sa E MC MS HX Q X kX2_clear) Q X kX2_clear_0 L st M nc ns := Run_eq sa E MC MS HX Q X _ _ _ _ _ _ _
def kX2_combine_0 : List Item := [(0, .iload_n 0, 1, 1, 0, 0, 0, 0, [], .null),
    (1, .tableswitch 39 (-6) (-4) #[35, 31, 27], 27, 23, 40, 0, 0, 0, [36, 32, 28], .int (-6))]
def kX2_combine_28 : List Item := [(28, .lload_n 1, 1, 2, 1, 0, 0, 0, [], .null),
    (29, .lload_n 3, 1, 2, 3, 0, 0, 0, [], .null),
    (30, .ladd, 1, 10, 0, 0, 0, 0, [], .null),
    (31, .lreturn, 1, 57, 0, 0, 0, 0, [], .null)]
def kX2_combine_32 : List Item := [(32, .lload_n 1, 1, 2, 1, 0, 0, 0, [], .null),
    (33, .lload_n 3, 1, 2, 3, 0, 0, 0, [], .null),
    (34, .lsub, 1, 10, 0, 1, 0, 0, [], .null),
    (35, .lreturn, 1, 57, 0, 0, 0, 0, [], .null)]
def kX2_combine_36 : List Item := [(36, .lload_n 1, 1, 2, 1, 0, 0, 0, [], .null),
    (37, .lload_n 3, 1, 2, 3, 0, 0, 0, [], .null),
    (38, .lmul, 1, 10, 0, 2, 0, 0, [], .null),
    (39, .lreturn, 1, 57, 0, 0, 0, 0, [], .null)]
def kX2_combine_40 : List Item := [(40, .lload_n 3, 1, 2, 3, 0, 0, 0, [], .null),
    (41, .lconst 0, 1, 0, 0, 0, 0, 0, [], .long 0),
    (42, .lcmp, 1, 15, 0, 0, 0, 0, [], .null),
    (43, .ifCond .ne 7, 3, 20, 50, 1, 0, 0, [], .null),
    (46, .lconst 0, 1, 0, 0, 0, 0, 0, [], .long 0),
    (47, .goto 6, 3, 22, 53, 0, 0, 0, [], .null)]
def kX2_combine_50 : List Item := [(50, .lload_n 1, 1, 2, 1, 0, 0, 0, [], .null),
    (51, .lload_n 3, 1, 2, 3, 0, 0, 0, [], .null),
    (52, .ldiv, 1, 11, 0, 0, 0, 0, [], .null),
    (53, .lreturn, 1, 57, 0, 0, 0, 0, [], .null)]
def kX2_combine_53 : List Item := [(53, .lreturn, 1, 57, 0, 0, 0, 0, [], .null)]
def kX2_combine : Code9 := [(0, kX2_combine_0), (28, kX2_combine_28), (32, kX2_combine_32), (36, kX2_combine_36), (40, kX2_combine_40), (50, kX2_combine_50), (53, kX2_combine_53)]
theorem rX2_combine_0 (sa : Nat → Nat) (E : Nat → Sem) (MC MS : Nat) (HX : Nat → Nat → Option Nat) (Q : Option Value → Mm → Prop) (X : Nat → Mm → Prop) (L : List Slot) (st : List Value) (M : Mm) (nc ns : Nat) : Run sa E MC MS HX Q X kX2_combine 0 L st M nc ns = bk sa E MC MS HX (Run sa E MC MS HX Q X kX2_combine) Q X kX2_combine_0 L st M nc ns := Run_eq sa E MC MS HX Q X _ _ _ _ _ _ _
theorem rX2_combine_28 (sa : Nat → Nat) (E : Nat → Sem) (MC MS : Nat) (HX : Nat → Nat → Option Nat) (Q : Option Value → Mm → Prop) (X : Nat → Mm → Prop) (L : List Slot) (st : List Value) (M : Mm) (nc ns : Nat) : Run sa E MC MS HX Q X kX2_combine 28 L st M nc ns = bk sa E MC MS HX (Run sa E MC MS HX Q X kX2_combine) Q X kX2_combine_28 L st M nc ns := Run_eq sa E MC MS HX Q X _ _ _ _ _ _ _
theorem rX2_combine_32 (sa : Nat → Nat) (E : Nat → Sem) (MC MS : Nat) (HX : Nat → Nat → Option Nat) (Q : Option Value → Mm → Prop) (X : Nat → Mm → Prop) (L : List Slot) (st : List Value) (M : Mm) (nc ns : Nat) : Run sa E MC MS HX Q X kX2_combine 32 L st M nc ns = bk sa E MC MS HX (Run sa E MC MS HX Q X kX2_combine) Q X kX2_combine_32 L st M nc ns := Run_eq sa E MC MS HX Q X _ _ _ _ _ _ _
theorem rX2_combine_36 (sa : Nat → Nat) (E : Nat → Sem) (MC MS : Nat) (HX : Nat → Nat → Option Nat) (Q : Option Value → Mm → Prop) (X : Nat → Mm → Prop) (L : List Slot) (st : List Value) (M : Mm) (nc ns : Nat) : Run sa E MC MS HX Q X kX2_combine 36 L st M nc ns = bk sa E MC MS HX (Run sa E MC MS HX Q X kX2_combine) Q X kX2_combine_36 L st M nc ns := Run_eq sa E MC MS HX Q X _ _ _ _ _ _ _
theorem rX2_combine_40 (sa : Nat → Nat) (E : Nat → Sem) (MC MS : Nat) (HX : Nat → Nat → Option Nat) (Q : Option Value → Mm → Prop) (X : Nat → Mm → Prop) (L : List Slot) (st : List Value) (M : Mm) (nc ns : Nat) : Run sa E MC MS HX Q X kX2_combine 40 L st M nc ns = bk sa E MC MS HX (Run sa E MC MS HX Q X kX2_combine) Q X kX2_combine_40 L st M nc ns := Run_eq sa E MC MS HX Q X _ _ _ _ _ _ _
theorem rX2_combine_50 (sa : Nat → Nat) (E : Nat → Sem) (MC MS : Nat) (HX : Nat → Nat → Option Nat) (Q : Option Value → Mm → Prop) (X : Nat → Mm → Prop) (L : List Slot) (st : List Value) (M : Mm) (nc ns : Nat) : Run sa E MC MS HX Q X kX2_combine 50 L st M nc ns = bk sa E MC MS HX (Run sa E MC MS HX Q X kX2_combine) Q X kX2_combine_50 L st M nc ns := Run_eq sa E MC MS HX Q X _ _ _ _ _ _ _
theorem rX2_combine_53 (sa : Nat → Nat) (E : Nat → Sem) (MC MS : Nat) (HX : Nat → Nat → Option Nat) (Q : Option Value → Mm → Prop) (X : Nat → Mm → Prop) (L : List Slot) (st : List Value) (M : Mm) (nc ns : Nat) : Run sa E MC MS HX Q X kX2_combine 53 L st M nc ns = bk sa E MC MS HX (Run sa E MC MS HX Q X kX2_combine) Q X kX2_combine_53 L st M nc ns := Run_eq sa E MC MS HX Q X _ _ _ _ _ _ _
def kX2_copyFrom_0 : List Item := [(0, .aload_n 0, 1, 3, 0, 0, 0, 0, [], .null),
    (1, .aload_n 1, 1, 3, 1, 0, 0, 0, [], .null),
    (2, .getfield 19, 3, 24, 2, 2, 0, 0, [], .null),
    (5, .putfield 19, 3, 27, 2, 2, 0, 0, [], .null),
    (8, .aload_n 1, 1, 3, 1, 0, 0, 0, [], .null),
    (9, .getfield 9, 3, 26, 2, 0, 0, 0, [], .null),
    (12, .iconst 0, 1, 0, 0, 0, 0, 0, [], .int 0),
    (13, .aload_n 0, 1, 3, 0, 0, 0, 0, [], .null),
    (14, .getfield 9, 3, 26, 2, 0, 0, 0, [], .null),
    (17, .iconst 0, 1, 0, 0, 0, 0, 0, [], .int 0),
    (18, .aload_n 0, 1, 3, 0, 0, 0, 0, [], .null),
    (19, .getfield 19, 3, 24, 2, 2, 0, 0, [], .null),
    (22, .invokestatic 23, 3, 51, 0, 0, 0, 0, [], .null),
    (25, .return_, 1, 55, 0, 0, 0, 0, [], .null)]
def kX2_copyFrom : Code9 := [(0, kX2_copyFrom_0)]
theorem rX2_copyFrom_0 (sa : Nat → Nat) (E : Nat → Sem) (MC MS : Nat) (HX : Nat → Nat → Option Nat) (Q : Option Value → Mm → Prop) (X : Nat → Mm → Prop) (L : List Slot) (st : List Value) (M : Mm) (nc ns : Nat) : Run sa E MC MS HX Q X kX2_copyFrom 0 L st M nc ns = bk sa E MC MS HX (Run sa E MC MS HX Q X kX2_copyFrom) Q X kX2_copyFrom_0 L st M nc ns := Run_eq sa E MC MS HX Q X _ _ _ _ _ _ _
def kX2_inflowIn_0 : List Item := [(0, .iconst 0, 1, 0, 0, 0, 0, 0, [], .int 0),
    (1, .istore_n 3, 1, 4, 3, 0, 0, 0, [], .null),
    (2, .iconst 0, 1, 0, 0, 0, 0, 0, [], .int 0),
    (3, .istore 4, 2, 4, 4, 0, 0, 0, [], .null),
    (5, .nop, 0, 60, 5, 0, 0, 0, [], .null)]
def kX2_inflowIn_5 : List Item := [(5, .iload 4, 2, 1, 4, 0, 0, 0, [], .null),
    (7, .aload_n 0, 1, 3, 0, 0, 0, 0, [], .null),
    (8, .getfield 19, 3, 24, 2, 2, 0, 0, [], .null),
    (11, .if_icmp .ge 108, 3, 21, 119, 3, 0, 0, [], .null),
    (14, .aload_n 0, 1, 3, 0, 0, 0, 0, [], .null),
    (15, .getfield 9, 3, 26, 2, 0, 0, 0, [], .null),
    (18, .iload 4, 2, 1, 4, 0, 0, 0, [], .null),
    (20, .iaload, 1, 31, 0, 0, 0, 0, [], .null),
    (21, .istore 5, 2, 4, 5, 0, 0, 0, [], .null),
    (23, .iload 5, 2, 1, 5, 0, 0, 0, [], .null),
    (25, .bipush (-4), 2, 0, 0, 0, 0, 0, [], .int (-4)),
    (27, .if_icmp .le 28, 3, 21, 55, 5, 0, 0, [], .null),
    (30, .iload_n 3, 1, 1, 3, 0, 0, 0, [], .null),
    (31, .bipush 11, 2, 0, 0, 0, 0, 0, [], .int 11),
    (33, .if_icmp .ge 22, 3, 21, 55, 3, 0, 0, [], .null),
    (36, .aload_n 0, 1, 3, 0, 0, 0, 0, [], .null),
    (37, .getfield 15, 3, 26, 2, 1, 0, 0, [], .null),
    (40, .iload_n 3, 1, 1, 3, 0, 0, 0, [], .null),
    (41, .iload 5, 2, 1, 5, 0, 0, 0, [], .null),
    (43, .iload_n 1, 1, 1, 1, 0, 0, 0, [], .null),
    (44, .iload_n 2, 1, 1, 2, 0, 0, 0, [], .null),
    (45, .invokestatic 29, 3, 48, 31, 3, 0, 0, [], .null),
    (48, .lastore, 1, 36, 0, 0, 0, 0, [], .null),
    (49, .iinc 3 1, 3, 7, 3, 0, 0, 0, [], .int 1),
    (52, .goto 61, 3, 22, 113, 0, 0, 0, [], .null)]
def kX2_inflowIn_55 : List Item := [(55, .iload 5, 2, 1, 5, 0, 0, 0, [], .null),
    (57, .bipush (-4), 2, 0, 0, 0, 0, 0, [], .int (-4)),
    (59, .if_icmp .gt 54, 3, 21, 113, 4, 0, 0, [], .null),
    (62, .iload_n 3, 1, 1, 3, 0, 0, 0, [], .null),
    (63, .iconst 2, 1, 0, 0, 0, 0, 0, [], .int 2),
    (64, .if_icmp .lt 49, 3, 21, 113, 2, 0, 0, [], .null),
    (67, .iinc 3 (-1), 3, 7, 3, 0, 0, 0, [], .int (-1)),
    (70, .iload 5, 2, 1, 5, 0, 0, 0, [], .null),
    (72, .aload_n 0, 1, 3, 0, 0, 0, 0, [], .null),
    (73, .getfield 15, 3, 26, 2, 1, 0, 0, [], .null),
    (76, .iload_n 3, 1, 1, 3, 0, 0, 0, [], .null),
    (77, .iconst 1, 1, 0, 0, 0, 0, 0, [], .int 1),
    (78, .isub, 1, 8, 0, 1, 0, 0, [], .null),
    (79, .laload, 1, 32, 0, 0, 0, 0, [], .null),
    (80, .aload_n 0, 1, 3, 0, 0, 0, 0, [], .null),
    (81, .getfield 15, 3, 26, 2, 1, 0, 0, [], .null),
    (84, .iload_n 3, 1, 1, 3, 0, 0, 0, [], .null),
    (85, .laload, 1, 32, 0, 0, 0, 0, [], .null),
    (86, .invokestatic 33, 3, 48, 27, 3, 0, 0, [], .null),
    (89, .lstore 6, 2, 6, 6, 0, 0, 0, [], .null),
    (91, .aload_n 0, 1, 3, 0, 0, 0, 0, [], .null),
    (92, .getfield 15, 3, 26, 2, 1, 0, 0, [], .null),
    (95, .iload_n 3, 1, 1, 3, 0, 0, 0, [], .null),
    (96, .iconst 1, 1, 0, 0, 0, 0, 0, [], .int 1),
    (97, .isub, 1, 8, 0, 1, 0, 0, [], .null),
    (98, .ldc2_w 37, 3, 0, 0, 0, 0, 0, [], .long (-1000000000)),
    (101, .ldc2_w 39, 3, 0, 0, 0, 0, 0, [], .long 1000000000),
    (104, .lload 6, 2, 2, 6, 0, 0, 0, [], .null),
    (106, .invokestatic 41, 3, 53, 0, 0, 0, 0, [], .null),
    (109, .invokestatic 47, 3, 54, 0, 0, 0, 0, [], .null),
    (112, .lastore, 1, 36, 0, 0, 0, 0, [], .null),
    (113, .iinc 4 1, 3, 7, 4, 0, 0, 0, [], .int 1),
    (116, .goto (-111), 3, 22, 5, 0, 0, 0, [], .null)]
def kX2_inflowIn_113 : List Item := [(113, .iinc 4 1, 3, 7, 4, 0, 0, 0, [], .int 1),
    (116, .goto (-111), 3, 22, 5, 0, 0, 0, [], .null)]
def kX2_inflowIn_119 : List Item := [(119, .lconst 0, 1, 0, 0, 0, 0, 0, [], .long 0),
    (120, .ldc2_w 50, 3, 0, 0, 0, 0, 0, [], .long 9999),
    (123, .aload_n 0, 1, 3, 0, 0, 0, 0, [], .null),
    (124, .getfield 15, 3, 26, 2, 1, 0, 0, [], .null),
    (127, .iconst 0, 1, 0, 0, 0, 0, 0, [], .int 0),
    (128, .laload, 1, 32, 0, 0, 0, 0, [], .null),
    (129, .invokestatic 41, 3, 53, 0, 0, 0, 0, [], .null),
    (132, .invokestatic 47, 3, 54, 0, 0, 0, 0, [], .null),
    (135, .l2i, 1, 13, 0, 0, 0, 0, [], .null),
    (136, .ireturn, 1, 56, 0, 0, 0, 0, [], .null)]
def kX2_inflowIn : Code9 := [(0, kX2_inflowIn_0), (5, kX2_inflowIn_5), (55, kX2_inflowIn_55), (113, kX2_inflowIn_113), (119, kX2_inflowIn_119)]
theorem rX2_inflowIn_0 (sa : Nat → Nat) (E : Nat → Sem) (MC MS : Nat) (HX : Nat → Nat → Option Nat) (Q : Option Value → Mm → Prop) (X : Nat → Mm → Prop) (L : List Slot) (st : List Value) (M : Mm) (nc ns : Nat) : Run sa E MC MS HX Q X kX2_inflowIn 0 L st M nc ns = bk sa E MC MS HX (Run sa E MC MS HX Q X kX2_inflowIn) Q X kX2_inflowIn_0 L st M nc ns := Run_eq sa E MC MS HX Q X _ _ _ _ _ _ _
theorem rX2_inflowIn_5 (sa : Nat → Nat) (E : Nat → Sem) (MC MS : Nat) (HX : Nat → Nat → Option Nat) (Q : Option Value → Mm → Prop) (X : Nat → Mm → Prop) (L : List Slot) (st : List Value) (M : Mm) (nc ns : Nat) : Run sa E MC MS HX Q X kX2_inflowIn 5 L st M nc ns = bk sa E MC MS HX (Run sa E MC MS HX Q X kX2_inflowIn) Q X kX2_inflowIn_5 L st M nc ns := Run_eq sa E MC MS HX Q X _ _ _ _ _ _ _
theorem rX2_inflowIn_55 (sa : Nat → Nat) (E : Nat → Sem) (MC MS : Nat) (HX : Nat → Nat → Option Nat) (Q : Option Value → Mm → Prop) (X : Nat → Mm → Prop) (L : List Slot) (st : List Value) (M : Mm) (nc ns : Nat) : Run sa E MC MS HX Q X kX2_inflowIn 55 L st M nc ns = bk sa E MC MS HX (Run sa E MC MS HX Q X kX2_inflowIn) Q X kX2_inflowIn_55 L st M nc ns := Run_eq sa E MC MS HX Q X _ _ _ _ _ _ _
theorem rX2_inflowIn_113 (sa : Nat → Nat) (E : Nat → Sem) (MC MS : Nat) (HX : Nat → Nat → Option Nat) (Q : Option Value → Mm → Prop) (X : Nat → Mm → Prop) (L : List Slot) (st : List Value) (M : Mm) (nc ns : Nat) : Run sa E MC MS HX Q X kX2_inflowIn 113 L st M nc ns = bk sa E MC MS HX (Run sa E MC MS HX Q X kX2_inflowIn) Q X kX2_inflowIn_113 L st M nc ns := Run_eq sa E MC MS HX Q X _ _ _ _ _ _ _
theorem rX2_inflowIn_119 (sa : Nat → Nat) (E : Nat → Sem) (MC MS : Nat) (HX : Nat → Nat → Option Nat) (Q : Option Value → Mm → Prop) (X : Nat → Mm → Prop) (L : List Slot) (st : List Value) (M : Mm) (nc ns : Nat) : Run sa E MC MS HX Q X kX2_inflowIn 119 L st M nc ns = bk sa E MC MS HX (Run sa E MC MS HX Q X kX2_inflowIn) Q X kX2_inflowIn_119 L st M nc ns := Run_eq sa E MC MS HX Q X _ _ _ _ _ _ _
def kX2_init_0 : List Item := [(0, .aload_n 0, 1, 3, 0, 0, 0, 0, [], .null),
    (1, .invokespecial 3, 3, 47, 0, 0, 0, 0, [], .null),
    (4, .aload_n 0, 1, 3, 0, 0, 0, 0, [], .null),
    (5, .sipush 900, 3, 0, 0, 0, 0, 0, [], .int 900),
    (8, .newarray .int, 2, 44, 0, 0, 0, 0, [], .null),
    (10, .putfield 9, 3, 29, 2, 0, 0, 0, [], .null),
    (13, .aload_n 0, 1, 3, 0, 0, 0, 0, [], .null),
    (14, .bipush 11, 2, 0, 0, 0, 0, 0, [], .int 11),
    (16, .newarray .long, 2, 44, 3, 0, 0, 0, [], .null),
    (18, .putfield 15, 3, 29, 2, 1, 0, 0, [], .null),
    (21, .aload_n 0, 1, 3, 0, 0, 0, 0, [], .null),
    (22, .getfield 9, 3, 26, 2, 0, 0, 0, [], .null),
    (25, .iconst 0, 1, 0, 0, 0, 0, 0, [], .int 0),
    (26, .bipush 100, 2, 0, 0, 0, 0, 0, [], .int 100),
    (28, .iastore, 1, 35, 0, 0, 0, 0, [], .null),
    (29, .aload_n 0, 1, 3, 0, 0, 0, 0, [], .null),
    (30, .iconst 1, 1, 0, 0, 0, 0, 0, [], .int 1),
    (31, .putfield 19, 3, 27, 2, 2, 0, 0, [], .null),
    (34, .return_, 1, 55, 0, 0, 0, 0, [], .null)]
def kX2_init : Code9 := [(0, kX2_init_0)]
theorem rX2_init_0 (sa : Nat → Nat) (E : Nat → Sem) (MC MS : Nat) (HX : Nat → Nat → Option Nat) (Q : Option Value → Mm → Prop) (X : Nat → Mm → Prop) (L : List Slot) (st : List Value) (M : Mm) (nc ns : Nat) : Run sa E MC MS HX Q X kX2_init 0 L st M nc ns = bk sa E MC MS HX (Run sa E MC MS HX Q X kX2_init) Q X kX2_init_0 L st M nc ns := Run_eq sa E MC MS HX Q X _ _ _ _ _ _ _
def kX2_operand_0 : List Item := [(0, .iload_n 0, 1, 1, 0, 0, 0, 0, [], .null),
    (1, .tableswitch 39 (-3) (-1) #[36, 30, 27], 27, 23, 40, 0, 0, 0, [37, 31, 28], .int (-3))]
def kX2_operand_28 : List Item := [(28, .iload_n 1, 1, 1, 1, 0, 0, 0, [], .null),
    (29, .i2l, 1, 12, 0, 0, 0, 0, [], .null),
    (30, .lreturn, 1, 57, 0, 0, 0, 0, [], .null)]
def kX2_operand_31 : List Item := [(31, .iload_n 1, 1, 1, 1, 0, 0, 0, [], .null),
    (32, .bipush 24, 2, 0, 0, 0, 0, 0, [], .int 24),
    (34, .idiv, 1, 9, 0, 0, 0, 0, [], .null),
    (35, .i2l, 1, 12, 0, 0, 0, 0, [], .null),
    (36, .lreturn, 1, 57, 0, 0, 0, 0, [], .null)]
def kX2_operand_37 : List Item := [(37, .iload_n 2, 1, 1, 2, 0, 0, 0, [], .null),
    (38, .i2l, 1, 12, 0, 0, 0, 0, [], .null),
    (39, .lreturn, 1, 57, 0, 0, 0, 0, [], .null)]
def kX2_operand_40 : List Item := [(40, .iload_n 0, 1, 1, 0, 0, 0, 0, [], .null),
    (41, .i2l, 1, 12, 0, 0, 0, 0, [], .null),
    (42, .lreturn, 1, 57, 0, 0, 0, 0, [], .null)]
def kX2_operand : Code9 := [(0, kX2_operand_0), (28, kX2_operand_28), (31, kX2_operand_31), (37, kX2_operand_37), (40, kX2_operand_40)]
theorem rX2_operand_0 (sa : Nat → Nat) (E : Nat → Sem) (MC MS : Nat) (HX : Nat → Nat → Option Nat) (Q : Option Value → Mm → Prop) (X : Nat → Mm → Prop) (L : List Slot) (st : List Value) (M : Mm) (nc ns : Nat) : Run sa E MC MS HX Q X kX2_operand 0 L st M nc ns = bk sa E MC MS HX (Run sa E MC MS HX Q X kX2_operand) Q X kX2_operand_0 L st M nc ns := Run_eq sa E MC MS HX Q X _ _ _ _ _ _ _
theorem rX2_operand_28 (sa : Nat → Nat) (E : Nat → Sem) (MC MS : Nat) (HX : Nat → Nat → Option Nat) (Q : Option Value → Mm → Prop) (X : Nat → Mm → Prop) (L : List Slot) (st : List Value) (M : Mm) (nc ns : Nat) : Run sa E MC MS HX Q X kX2_operand 28 L st M nc ns = bk sa E MC MS HX (Run sa E MC MS HX Q X kX2_operand) Q X kX2_operand_28 L st M nc ns := Run_eq sa E MC MS HX Q X _ _ _ _ _ _ _
theorem rX2_operand_31 (sa : Nat → Nat) (E : Nat → Sem) (MC MS : Nat) (HX : Nat → Nat → Option Nat) (Q : Option Value → Mm → Prop) (X : Nat → Mm → Prop) (L : List Slot) (st : List Value) (M : Mm) (nc ns : Nat) : Run sa E MC MS HX Q X kX2_operand 31 L st M nc ns = bk sa E MC MS HX (Run sa E MC MS HX Q X kX2_operand) Q X kX2_operand_31 L st M nc ns := Run_eq sa E MC MS HX Q X _ _ _ _ _ _ _
theorem rX2_operand_37 (sa : Nat → Nat) (E : Nat → Sem) (MC MS : Nat) (HX : Nat → Nat → Option Nat) (Q : Option Value → Mm → Prop) (X : Nat → Mm → Prop) (L : List Slot) (st : List Value) (M : Mm) (nc ns : Nat) : Run sa E MC MS HX Q X kX2_operand 37 L st M nc ns = bk sa E MC MS HX (Run sa E MC MS HX Q X kX2_operand) Q X kX2_operand_37 L st M nc ns := Run_eq sa E MC MS HX Q X _ _ _ _ _ _ _
theorem rX2_operand_40 (sa : Nat → Nat) (E : Nat → Sem) (MC MS : Nat) (HX : Nat → Nat → Option Nat) (Q : Option Value → Mm → Prop) (X : Nat → Mm → Prop) (L : List Slot) (st : List Value) (M : Mm) (nc ns : Nat) : Run sa E MC MS HX Q X kX2_operand 40 L st M nc ns = bk sa E MC MS HX (Run sa E MC MS HX Q X kX2_operand) Q X kX2_operand_40 L st M nc ns := Run_eq sa E MC MS HX Q X _ _ _ _ _ _ _
def kX3_addStop_0 : List Item := [(0, .aload_n 0, 1, 3, 0, 0, 0, 0, [], .null),
    (1, .getfield 19, 3, 24, 3, 1, 0, 0, [], .null),
    (4, .aload_n 0, 1, 3, 0, 0, 0, 0, [], .null),
    (5, .getfield 9, 3, 26, 3, 0, 0, 0, [], .null),
    (8, .arraylength, 1, 42, 0, 0, 0, 0, [], .null),
    (9, .if_icmp .ge 23, 3, 21, 32, 3, 0, 0, [], .null),
    (12, .aload_n 0, 1, 3, 0, 0, 0, 0, [], .null),
    (13, .getfield 9, 3, 26, 3, 0, 0, 0, [], .null),
    (16, .aload_n 0, 1, 3, 0, 0, 0, 0, [], .null),
    (17, .getfield 19, 3, 24, 3, 1, 0, 0, [], .null),
    (20, .iload_n 1, 1, 1, 1, 0, 0, 0, [], .null),
    (21, .iastore, 1, 35, 0, 0, 0, 0, [], .null),
    (22, .aload_n 0, 1, 3, 0, 0, 0, 0, [], .null),
    (23, .dup, 1, 16, 0, 0, 0, 0, [], .null),
    (24, .getfield 19, 3, 24, 3, 1, 0, 0, [], .null),
    (27, .iconst 1, 1, 0, 0, 0, 0, 0, [], .int 1),
    (28, .iadd, 1, 8, 0, 0, 0, 0, [], .null),
    (29, .putfield 19, 3, 27, 3, 1, 0, 0, [], .null),
    (32, .return_, 1, 55, 0, 0, 0, 0, [], .null)]
def kX3_addStop_32 : List Item := [(32, .return_, 1, 55, 0, 0, 0, 0, [], .null)]
def kX3_addStop : Code9 := [(0, kX3_addStop_0), (32, kX3_addStop_32)]
theorem rX3_addStop_0 (sa : Nat → Nat) (E : Nat → Sem) (MC MS : Nat) (HX : Nat → Nat → Option Nat) (Q : Option Value → Mm → Prop) (X : Nat → Mm → Prop) (L : List Slot) (st : List Value) (M : Mm) (nc ns : Nat) : Run sa E MC MS HX Q X kX3_addStop 0 L st M nc ns = bk sa E MC MS HX (Run sa E MC MS HX Q X kX3_addStop) Q X kX3_addStop_0 L st M nc ns := Run_eq sa E MC MS HX Q X _ _ _ _ _ _ _
theorem rX3_addStop_32 (sa : Nat → Nat) (E : Nat → Sem) (MC MS : Nat) (HX : Nat → Nat → Option Nat) (Q : Option Value → Mm → Prop) (X : Nat → Mm → Prop) (L : List Slot) (st : List Value) (M : Mm) (nc ns : Nat) : Run sa E MC MS HX Q X kX3_addStop 32 L st M nc ns = bk sa E MC MS HX (Run sa E MC MS HX Q X kX3_addStop) Q X kX3_addStop_32 L st M nc ns := Run_eq sa E MC MS HX Q X _ _ _ _ _ _ _
def kX3_copyFrom_0 : List Item := [(0, .aload_n 1, 1, 3, 1, 0, 0, 0, [], .null),
    (1, .getfield 9, 3, 26, 3, 0, 0, 0, [], .null),
    (4, .aload_n 0, 1, 3, 0, 0, 0, 0, [], .null),
    (5, .getfield 9, 3, 26, 3, 0, 0, 0, [], .null),
    (8, .invokestatic 15, 3, 48, 80, 2, 0, 0, [], .null),
    (11, .aload_n 0, 1, 3, 0, 0, 0, 0, [], .null),
    (12, .aload_n 1, 1, 3, 1, 0, 0, 0, [], .null),
    (13, .getfield 19, 3, 24, 3, 1, 0, 0, [], .null),
    (16, .putfield 19, 3, 27, 3, 1, 0, 0, [], .null),
    (19, .aload_n 0, 1, 3, 0, 0, 0, 0, [], .null),
    (20, .aload_n 1, 1, 3, 1, 0, 0, 0, [], .null),
    (21, .getfield 23, 3, 24, 3, 2, 0, 0, [], .null),
    (24, .putfield 23, 3, 27, 3, 2, 0, 0, [], .null),
    (27, .return_, 1, 55, 0, 0, 0, 0, [], .null)]
def kX3_copyFrom : Code9 := [(0, kX3_copyFrom_0)]
theorem rX3_copyFrom_0 (sa : Nat → Nat) (E : Nat → Sem) (MC MS : Nat) (HX : Nat → Nat → Option Nat) (Q : Option Value → Mm → Prop) (X : Nat → Mm → Prop) (L : List Slot) (st : List Value) (M : Mm) (nc ns : Nat) : Run sa E MC MS HX Q X kX3_copyFrom 0 L st M nc ns = bk sa E MC MS HX (Run sa E MC MS HX Q X kX3_copyFrom) Q X kX3_copyFrom_0 L st M nc ns := Run_eq sa E MC MS HX Q X _ _ _ _ _ _ _
def kX3_init_0 : List Item := [(0, .aload_n 0, 1, 3, 0, 0, 0, 0, [], .null),
    (1, .invokespecial 3, 3, 47, 0, 0, 0, 0, [], .null),
    (4, .aload_n 0, 1, 3, 0, 0, 0, 0, [], .null),
    (5, .bipush 10, 2, 0, 0, 0, 0, 0, [], .int 10),
    (7, .newarray .int, 2, 44, 0, 0, 0, 0, [], .null),
    (9, .putfield 9, 3, 29, 3, 0, 0, 0, [], .null),
    (12, .return_, 1, 55, 0, 0, 0, 0, [], .null)]
def kX3_init : Code9 := [(0, kX3_init_0)]
theorem rX3_init_0 (sa : Nat → Nat) (E : Nat → Sem) (MC MS : Nat) (HX : Nat → Nat → Option Nat) (Q : Option Value → Mm → Prop) (X : Nat → Mm → Prop) (L : List Slot) (st : List Value) (M : Mm) (nc ns : Nat) : Run sa E MC MS HX Q X kX3_init 0 L st M nc ns = bk sa E MC MS HX (Run sa E MC MS HX Q X kX3_init) Q X kX3_init_0 L st M nc ns := Run_eq sa E MC MS HX Q X _ _ _ _ _ _ _
def kX3_place_0 : List Item := [(0, .aload_n 0, 1, 3, 0, 0, 0, 0, [], .null),
    (1, .getfield 23, 3, 24, 3, 2, 0, 0, [], .null),
    (4, .aload_n 0, 1, 3, 0, 0, 0, 0, [], .null),
    (5, .getfield 19, 3, 24, 3, 1, 0, 0, [], .null),
    (8, .if_icmp .ge 15, 3, 21, 23, 3, 0, 0, [], .null),
    (11, .aload_n 0, 1, 3, 0, 0, 0, 0, [], .null),
    (12, .getfield 9, 3, 26, 3, 0, 0, 0, [], .null),
    (15, .aload_n 0, 1, 3, 0, 0, 0, 0, [], .null),
    (16, .getfield 23, 3, 24, 3, 2, 0, 0, [], .null),
    (19, .iaload, 1, 31, 0, 0, 0, 0, [], .null),
    (20, .goto 4, 3, 22, 24, 0, 0, 0, [], .null)]
def kX3_place_23 : List Item := [(23, .iconst (-1), 1, 0, 0, 0, 0, 0, [], .int (-1)),
    (24, .ireturn, 1, 56, 0, 0, 0, 0, [], .null)]
def kX3_place_24 : List Item := [(24, .ireturn, 1, 56, 0, 0, 0, 0, [], .null)]
def kX3_place : Code9 := [(0, kX3_place_0), (23, kX3_place_23), (24, kX3_place_24)]
theorem rX3_place_0 (sa : Nat → Nat) (E : Nat → Sem) (MC MS : Nat) (HX : Nat → Nat → Option Nat) (Q : Option Value → Mm → Prop) (X : Nat → Mm → Prop) (L : List Slot) (st : List Value) (M : Mm) (nc ns : Nat) : Run sa E MC MS HX Q X kX3_place 0 L st M nc ns = bk sa E MC MS HX (Run sa E MC MS HX Q X kX3_place) Q X kX3_place_0 L st M nc ns := Run_eq sa E MC MS HX Q X _ _ _ _ _ _ _
theorem rX3_place_23 (sa : Nat → Nat) (E : Nat → Sem) (MC MS : Nat) (HX : Nat → Nat → Option Nat) (Q : Option Value → Mm → Prop) (X : Nat → Mm → Prop) (L : List Slot) (st : List Value) (M : Mm) (nc ns : Nat) : Run sa E MC MS HX Q X kX3_place 23 L st M nc ns = bk sa E MC MS HX (Run sa E MC MS HX Q X kX3_place) Q X kX3_place_23 L st M nc ns := Run_eq sa E MC MS HX Q X _ _ _ _ _ _ _
theorem rX3_place_24 (sa : Nat → Nat) (E : Nat → Sem) (MC MS : Nat) (HX : Nat → Nat → Option Nat) (Q : Option Value → Mm → Prop) (X : Nat → Mm → Prop) (L : List Slot) (st : List Value) (M : Mm) (nc ns : Nat) : Run sa E MC MS HX Q X kX3_place 24 L st M nc ns = bk sa E MC MS HX (Run sa E MC MS HX Q X kX3_place) Q X kX3_place_24 L st M nc ns := Run_eq sa E MC MS HX Q X _ _ _ _ _ _ _
def kX3_walk_0 : List Item := [(0, .aload_n 0, 1, 3, 0, 0, 0, 0, [], .null),
    (1, .aload_n 0, 1, 3, 0, 0, 0, 0, [], .null),
    (2, .getfield 23, 3, 24, 3, 2, 0, 0, [], .null),
    (5, .iconst 1, 1, 0, 0, 0, 0, 0, [], .int 1),
    (6, .iadd, 1, 8, 0, 0, 0, 0, [], .null),
    (7, .aload_n 0, 1, 3, 0, 0, 0, 0, [], .null),
    (8, .getfield 19, 3, 24, 3, 1, 0, 0, [], .null),
    (11, .if_icmp .ge 12, 3, 21, 23, 3, 0, 0, [], .null),
    (14, .aload_n 0, 1, 3, 0, 0, 0, 0, [], .null),
    (15, .getfield 23, 3, 24, 3, 2, 0, 0, [], .null),
    (18, .iconst 1, 1, 0, 0, 0, 0, 0, [], .int 1),
    (19, .iadd, 1, 8, 0, 0, 0, 0, [], .null),
    (20, .goto 4, 3, 22, 24, 0, 0, 0, [], .null)]
def kX3_walk_23 : List Item := [(23, .iconst 0, 1, 0, 0, 0, 0, 0, [], .int 0),
    (24, .putfield 23, 3, 27, 3, 2, 0, 0, [], .null),
    (27, .aload_n 0, 1, 3, 0, 0, 0, 0, [], .null),
    (28, .invokevirtual 26, 3, 48, 35, 1, 0, 0, [3], .null),
    (31, .ireturn, 1, 56, 0, 0, 0, 0, [], .null)]
def kX3_walk_24 : List Item := [(24, .putfield 23, 3, 27, 3, 2, 0, 0, [], .null),
    (27, .aload_n 0, 1, 3, 0, 0, 0, 0, [], .null),
    (28, .invokevirtual 26, 3, 48, 35, 1, 0, 0, [3], .null),
    (31, .ireturn, 1, 56, 0, 0, 0, 0, [], .null)]
def kX3_walk : Code9 := [(0, kX3_walk_0), (23, kX3_walk_23), (24, kX3_walk_24)]
theorem rX3_walk_0 (sa : Nat → Nat) (E : Nat → Sem) (MC MS : Nat) (HX : Nat → Nat → Option Nat) (Q : Option Value → Mm → Prop) (X : Nat → Mm → Prop) (L : List Slot) (st : List Value) (M : Mm) (nc ns : Nat) : Run sa E MC MS HX Q X kX3_walk 0 L st M nc ns = bk sa E MC MS HX (Run sa E MC MS HX Q X kX3_walk) Q X kX3_walk_0 L st M nc ns := Run_eq sa E MC MS HX Q X _ _ _ _ _ _ _
theorem rX3_walk_23 (sa : Nat → Nat) (E : Nat → Sem) (MC MS : Nat) (HX : Nat → Nat → Option Nat) (Q : Option Value → Mm → Prop) (X : Nat → Mm → Prop) (L : List Slot) (st : List Value) (M : Mm) (nc ns : Nat) : Run sa E MC MS HX Q X kX3_walk 23 L st M nc ns = bk sa E MC MS HX (Run sa E MC MS HX Q X kX3_walk) Q X kX3_walk_23 L st M nc ns := Run_eq sa E MC MS HX Q X _ _ _ _ _ _ _
theorem rX3_walk_24 (sa : Nat → Nat) (E : Nat → Sem) (MC MS : Nat) (HX : Nat → Nat → Option Nat) (Q : Option Value → Mm → Prop) (X : Nat → Mm → Prop) (L : List Slot) (st : List Value) (M : Mm) (nc ns : Nat) : Run sa E MC MS HX Q X kX3_walk 24 L st M nc ns = bk sa E MC MS HX (Run sa E MC MS HX Q X kX3_walk) Q X kX3_walk_24 L st M nc ns := Run_eq sa E MC MS HX Q X _ _ _ _ _ _ _
def kX4_init_0 : List Item := [(0, .aload_n 0, 1, 3, 0, 0, 0, 0, [], .null),
    (1, .invokespecial 3, 3, 47, 0, 0, 0, 0, [], .null),
    (4, .aload_n 0, 1, 3, 0, 0, 0, 0, [], .null),
    (5, .bipush 8, 2, 0, 0, 0, 0, 0, [], .int 8),
    (7, .anewarray 9, 3, 44, 4, 0, 0, 0, [], .null),
    (10, .putfield 11, 3, 29, 4, 0, 0, 0, [], .null),
    (13, .iconst 0, 1, 0, 0, 0, 0, 0, [], .int 0),
    (14, .istore_n 1, 1, 4, 1, 0, 0, 0, [], .null),
    (15, .nop, 0, 60, 15, 0, 0, 0, [], .null)]
def kX4_init_15 : List Item := [(15, .iload_n 1, 1, 1, 1, 0, 0, 0, [], .null),
    (16, .bipush 8, 2, 0, 0, 0, 0, 0, [], .int 8),
    (18, .if_icmp .ge 22, 3, 21, 40, 3, 0, 0, [], .null),
    (21, .aload_n 0, 1, 3, 0, 0, 0, 0, [], .null),
    (22, .getfield 11, 3, 26, 4, 0, 0, 0, [], .null),
    (25, .iload_n 1, 1, 1, 1, 0, 0, 0, [], .null),
    (26, .new 9, 3, 43, 8, 7, 0, 0, [], .null),
    (29, .dup, 1, 16, 0, 0, 0, 0, [], .null),
    (30, .invokespecial 17, 3, 48, 68, 1, 31, 1343, [101], .null),
    (33, .aastore, 1, 37, 0, 0, 0, 0, [], .null),
    (34, .iinc 1 1, 3, 7, 1, 0, 0, 0, [], .int 1),
    (37, .goto (-22), 3, 22, 15, 0, 0, 0, [], .null)]
def kX4_init_40 : List Item := [(40, .return_, 1, 55, 0, 0, 0, 0, [], .null)]
def kX4_init : Code9 := [(0, kX4_init_0), (15, kX4_init_15), (40, kX4_init_40)]
theorem rX4_init_0 (sa : Nat → Nat) (E : Nat → Sem) (MC MS : Nat) (HX : Nat → Nat → Option Nat) (Q : Option Value → Mm → Prop) (X : Nat → Mm → Prop) (L : List Slot) (st : List Value) (M : Mm) (nc ns : Nat) : Run sa E MC MS HX Q X kX4_init 0 L st M nc ns = bk sa E MC MS HX (Run sa E MC MS HX Q X kX4_init) Q X kX4_init_0 L st M nc ns := Run_eq sa E MC MS HX Q X _ _ _ _ _ _ _
theorem rX4_init_15 (sa : Nat → Nat) (E : Nat → Sem) (MC MS : Nat) (HX : Nat → Nat → Option Nat) (Q : Option Value → Mm → Prop) (X : Nat → Mm → Prop) (L : List Slot) (st : List Value) (M : Mm) (nc ns : Nat) : Run sa E MC MS HX Q X kX4_init 15 L st M nc ns = bk sa E MC MS HX (Run sa E MC MS HX Q X kX4_init) Q X kX4_init_15 L st M nc ns := Run_eq sa E MC MS HX Q X _ _ _ _ _ _ _
theorem rX4_init_40 (sa : Nat → Nat) (E : Nat → Sem) (MC MS : Nat) (HX : Nat → Nat → Option Nat) (Q : Option Value → Mm → Prop) (X : Nat → Mm → Prop) (L : List Slot) (st : List Value) (M : Mm) (nc ns : Nat) : Run sa E MC MS HX Q X kX4_init 40 L st M nc ns = bk sa E MC MS HX (Run sa E MC MS HX Q X kX4_init) Q X kX4_init_40 L st M nc ns := Run_eq sa E MC MS HX Q X _ _ _ _ _ _ _
def kX4_restore_0 : List Item := [(0, .aload_n 0, 1, 3, 0, 0, 0, 0, [], .null),
    (1, .getfield 26, 3, 24, 4, 2, 0, 0, [], .null),
    (4, .ifCond .ne 5, 3, 20, 9, 1, 0, 0, [], .null),
    (7, .iconst 0, 1, 0, 0, 0, 0, 0, [], .int 0),
    (8, .ireturn, 1, 58, 0, 0, 0, 0, [], .null)]
def kX4_restore_9 : List Item := [(9, .aload_n 0, 1, 3, 0, 0, 0, 0, [], .null),
    (10, .aload_n 0, 1, 3, 0, 0, 0, 0, [], .null),
    (11, .getfield 18, 3, 24, 4, 1, 0, 0, [], .null),
    (14, .ifCond .le 12, 3, 20, 26, 5, 0, 0, [], .null),
    (17, .aload_n 0, 1, 3, 0, 0, 0, 0, [], .null),
    (18, .getfield 18, 3, 24, 4, 1, 0, 0, [], .null),
    (21, .iconst 1, 1, 0, 0, 0, 0, 0, [], .int 1),
    (22, .isub, 1, 8, 0, 1, 0, 0, [], .null),
    (23, .goto 5, 3, 22, 28, 0, 0, 0, [], .null)]
def kX4_restore_26 : List Item := [(26, .bipush 7, 2, 0, 0, 0, 0, 0, [], .int 7),
    (28, .putfield 18, 3, 27, 4, 1, 0, 0, [], .null),
    (31, .aload_n 1, 1, 3, 1, 0, 0, 0, [], .null),
    (32, .aload_n 0, 1, 3, 0, 0, 0, 0, [], .null),
    (33, .getfield 11, 3, 26, 4, 0, 0, 0, [], .null),
    (36, .aload_n 0, 1, 3, 0, 0, 0, 0, [], .null),
    (37, .getfield 18, 3, 24, 4, 1, 0, 0, [], .null),
    (40, .aaload, 1, 33, 4, 0, 0, 0, [], .null),
    (41, .invokevirtual 22, 3, 48, 64, 2, 0, 0, [8], .null),
    (44, .aload_n 0, 1, 3, 0, 0, 0, 0, [], .null),
    (45, .dup, 1, 16, 0, 0, 0, 0, [], .null),
    (46, .getfield 26, 3, 24, 4, 2, 0, 0, [], .null),
    (49, .iconst 1, 1, 0, 0, 0, 0, 0, [], .int 1),
    (50, .isub, 1, 8, 0, 1, 0, 0, [], .null),
    (51, .putfield 26, 3, 27, 4, 2, 0, 0, [], .null),
    (54, .iconst 1, 1, 0, 0, 0, 0, 0, [], .int 1),
    (55, .ireturn, 1, 58, 0, 0, 0, 0, [], .null)]
def kX4_restore_28 : List Item := [(28, .putfield 18, 3, 27, 4, 1, 0, 0, [], .null),
    (31, .aload_n 1, 1, 3, 1, 0, 0, 0, [], .null),
    (32, .aload_n 0, 1, 3, 0, 0, 0, 0, [], .null),
    (33, .getfield 11, 3, 26, 4, 0, 0, 0, [], .null),
    (36, .aload_n 0, 1, 3, 0, 0, 0, 0, [], .null),
    (37, .getfield 18, 3, 24, 4, 1, 0, 0, [], .null),
    (40, .aaload, 1, 33, 4, 0, 0, 0, [], .null),
    (41, .invokevirtual 22, 3, 48, 64, 2, 0, 0, [8], .null),
    (44, .aload_n 0, 1, 3, 0, 0, 0, 0, [], .null),
    (45, .dup, 1, 16, 0, 0, 0, 0, [], .null),
    (46, .getfield 26, 3, 24, 4, 2, 0, 0, [], .null),
    (49, .iconst 1, 1, 0, 0, 0, 0, 0, [], .int 1),
    (50, .isub, 1, 8, 0, 1, 0, 0, [], .null),
    (51, .putfield 26, 3, 27, 4, 2, 0, 0, [], .null),
    (54, .iconst 1, 1, 0, 0, 0, 0, 0, [], .int 1),
    (55, .ireturn, 1, 58, 0, 0, 0, 0, [], .null)]
def kX4_restore : Code9 := [(0, kX4_restore_0), (9, kX4_restore_9), (26, kX4_restore_26), (28, kX4_restore_28)]
theorem rX4_restore_0 (sa : Nat → Nat) (E : Nat → Sem) (MC MS : Nat) (HX : Nat → Nat → Option Nat) (Q : Option Value → Mm → Prop) (X : Nat → Mm → Prop) (L : List Slot) (st : List Value) (M : Mm) (nc ns : Nat) : Run sa E MC MS HX Q X kX4_restore 0 L st M nc ns = bk sa E MC MS HX (Run sa E MC MS HX Q X kX4_restore) Q X kX4_restore_0 L st M nc ns := Run_eq sa E MC MS HX Q X _ _ _ _ _ _ _
theorem rX4_restore_9 (sa : Nat → Nat) (E : Nat → Sem) (MC MS : Nat) (HX : Nat → Nat → Option Nat) (Q : Option Value → Mm → Prop) (X : Nat → Mm → Prop) (L : List Slot) (st : List Value) (M : Mm) (nc ns : Nat) : Run sa E MC MS HX Q X kX4_restore 9 L st M nc ns = bk sa E MC MS HX (Run sa E MC MS HX Q X kX4_restore) Q X kX4_restore_9 L st M nc ns := Run_eq sa E MC MS HX Q X _ _ _ _ _ _ _
theorem rX4_restore_26 (sa : Nat → Nat) (E : Nat → Sem) (MC MS : Nat) (HX : Nat → Nat → Option Nat) (Q : Option Value → Mm → Prop) (X : Nat → Mm → Prop) (L : List Slot) (st : List Value) (M : Mm) (nc ns : Nat) : Run sa E MC MS HX Q X kX4_restore 26 L st M nc ns = bk sa E MC MS HX (Run sa E MC MS HX Q X kX4_restore) Q X kX4_restore_26 L st M nc ns := Run_eq sa E MC MS HX Q X _ _ _ _ _ _ _
theorem rX4_restore_28 (sa : Nat → Nat) (E : Nat → Sem) (MC MS : Nat) (HX : Nat → Nat → Option Nat) (Q : Option Value → Mm → Prop) (X : Nat → Mm → Prop) (L : List Slot) (st : List Value) (M : Mm) (nc ns : Nat) : Run sa E MC MS HX Q X kX4_restore 28 L st M nc ns = bk sa E MC MS HX (Run sa E MC MS HX Q X kX4_restore) Q X kX4_restore_28 L st M nc ns := Run_eq sa E MC MS HX Q X _ _ _ _ _ _ _
def kX4_save_0 : List Item := [(0, .aload_n 0, 1, 3, 0, 0, 0, 0, [], .null),
    (1, .getfield 11, 3, 26, 4, 0, 0, 0, [], .null),
    (4, .aload_n 0, 1, 3, 0, 0, 0, 0, [], .null),
    (5, .getfield 18, 3, 24, 4, 1, 0, 0, [], .null),
    (8, .aaload, 1, 33, 4, 0, 0, 0, [], .null),
    (9, .aload_n 1, 1, 3, 1, 0, 0, 0, [], .null),
    (10, .invokevirtual 22, 3, 48, 64, 2, 0, 0, [8], .null),
    (13, .aload_n 0, 1, 3, 0, 0, 0, 0, [], .null),
    (14, .aload_n 0, 1, 3, 0, 0, 0, 0, [], .null),
    (15, .getfield 18, 3, 24, 4, 1, 0, 0, [], .null),
    (18, .iconst 1, 1, 0, 0, 0, 0, 0, [], .int 1),
    (19, .iadd, 1, 8, 0, 0, 0, 0, [], .null),
    (20, .bipush 8, 2, 0, 0, 0, 0, 0, [], .int 8),
    (22, .if_icmp .ge 12, 3, 21, 34, 3, 0, 0, [], .null),
    (25, .aload_n 0, 1, 3, 0, 0, 0, 0, [], .null),
    (26, .getfield 18, 3, 24, 4, 1, 0, 0, [], .null),
    (29, .iconst 1, 1, 0, 0, 0, 0, 0, [], .int 1),
    (30, .iadd, 1, 8, 0, 0, 0, 0, [], .null),
    (31, .goto 4, 3, 22, 35, 0, 0, 0, [], .null)]
def kX4_save_34 : List Item := [(34, .iconst 0, 1, 0, 0, 0, 0, 0, [], .int 0),
    (35, .putfield 18, 3, 27, 4, 1, 0, 0, [], .null),
    (38, .aload_n 0, 1, 3, 0, 0, 0, 0, [], .null),
    (39, .aload_n 0, 1, 3, 0, 0, 0, 0, [], .null),
    (40, .getfield 26, 3, 24, 4, 2, 0, 0, [], .null),
    (43, .iconst 1, 1, 0, 0, 0, 0, 0, [], .int 1),
    (44, .iadd, 1, 8, 0, 0, 0, 0, [], .null),
    (45, .bipush 8, 2, 0, 0, 0, 0, 0, [], .int 8),
    (47, .invokestatic 29, 3, 49, 0, 0, 0, 0, [], .null),
    (50, .putfield 26, 3, 27, 4, 2, 0, 0, [], .null),
    (53, .return_, 1, 55, 0, 0, 0, 0, [], .null)]
def kX4_save_35 : List Item := [(35, .putfield 18, 3, 27, 4, 1, 0, 0, [], .null),
    (38, .aload_n 0, 1, 3, 0, 0, 0, 0, [], .null),
    (39, .aload_n 0, 1, 3, 0, 0, 0, 0, [], .null),
    (40, .getfield 26, 3, 24, 4, 2, 0, 0, [], .null),
    (43, .iconst 1, 1, 0, 0, 0, 0, 0, [], .int 1),
    (44, .iadd, 1, 8, 0, 0, 0, 0, [], .null),
    (45, .bipush 8, 2, 0, 0, 0, 0, 0, [], .int 8),
    (47, .invokestatic 29, 3, 49, 0, 0, 0, 0, [], .null),
    (50, .putfield 26, 3, 27, 4, 2, 0, 0, [], .null),
    (53, .return_, 1, 55, 0, 0, 0, 0, [], .null)]
def kX4_save : Code9 := [(0, kX4_save_0), (34, kX4_save_34), (35, kX4_save_35)]
theorem rX4_save_0 (sa : Nat → Nat) (E : Nat → Sem) (MC MS : Nat) (HX : Nat → Nat → Option Nat) (Q : Option Value → Mm → Prop) (X : Nat → Mm → Prop) (L : List Slot) (st : List Value) (M : Mm) (nc ns : Nat) : Run sa E MC MS HX Q X kX4_save 0 L st M nc ns = bk sa E MC MS HX (Run sa E MC MS HX Q X kX4_save) Q X kX4_save_0 L st M nc ns := Run_eq sa E MC MS HX Q X _ _ _ _ _ _ _
theorem rX4_save_34 (sa : Nat → Nat) (E : Nat → Sem) (MC MS : Nat) (HX : Nat → Nat → Option Nat) (Q : Option Value → Mm → Prop) (X : Nat → Mm → Prop) (L : List Slot) (st : List Value) (M : Mm) (nc ns : Nat) : Run sa E MC MS HX Q X kX4_save 34 L st M nc ns = bk sa E MC MS HX (Run sa E MC MS HX Q X kX4_save) Q X kX4_save_34 L st M nc ns := Run_eq sa E MC MS HX Q X _ _ _ _ _ _ _
theorem rX4_save_35 (sa : Nat → Nat) (E : Nat → Sem) (MC MS : Nat) (HX : Nat → Nat → Option Nat) (Q : Option Value → Mm → Prop) (X : Nat → Mm → Prop) (L : List Slot) (st : List Value) (M : Mm) (nc ns : Nat) : Run sa E MC MS HX Q X kX4_save 35 L st M nc ns = bk sa E MC MS HX (Run sa E MC MS HX Q X kX4_save) Q X kX4_save_35 L st M nc ns := Run_eq sa E MC MS HX Q X _ _ _ _ _ _ _
def kX5_copyFrom_0 : List Item := [(0, .aload_n 1, 1, 3, 1, 0, 0, 0, [], .null),
    (1, .getfield 9, 3, 26, 5, 0, 0, 0, [], .null),
    (4, .aload_n 0, 1, 3, 0, 0, 0, 0, [], .null),
    (5, .getfield 9, 3, 26, 5, 0, 0, 0, [], .null),
    (8, .invokestatic 15, 3, 48, 80, 2, 0, 0, [], .null),
    (11, .aload_n 0, 1, 3, 0, 0, 0, 0, [], .null),
    (12, .aload_n 1, 1, 3, 1, 0, 0, 0, [], .null),
    (13, .getfield 19, 3, 25, 5, 1, 0, 0, [], .null),
    (16, .putfield 19, 3, 28, 5, 1, 0, 0, [], .null),
    (19, .aload_n 0, 1, 3, 0, 0, 0, 0, [], .null),
    (20, .aload_n 1, 1, 3, 1, 0, 0, 0, [], .null),
    (21, .getfield 23, 3, 25, 5, 2, 0, 0, [], .null),
    (24, .putfield 23, 3, 28, 5, 2, 0, 0, [], .null),
    (27, .aload_n 0, 1, 3, 0, 0, 0, 0, [], .null),
    (28, .aload_n 1, 1, 3, 1, 0, 0, 0, [], .null),
    (29, .getfield 26, 3, 25, 5, 3, 0, 0, [], .null),
    (32, .putfield 26, 3, 28, 5, 3, 0, 0, [], .null),
    (35, .aload_n 0, 1, 3, 0, 0, 0, 0, [], .null),
    (36, .aload_n 1, 1, 3, 1, 0, 0, 0, [], .null),
    (37, .getfield 29, 3, 25, 5, 4, 0, 0, [], .null),
    (40, .putfield 29, 3, 28, 5, 4, 0, 0, [], .null),
    (43, .return_, 1, 55, 0, 0, 0, 0, [], .null)]
def kX5_copyFrom : Code9 := [(0, kX5_copyFrom_0)]
theorem rX5_copyFrom_0 (sa : Nat → Nat) (E : Nat → Sem) (MC MS : Nat) (HX : Nat → Nat → Option Nat) (Q : Option Value → Mm → Prop) (X : Nat → Mm → Prop) (L : List Slot) (st : List Value) (M : Mm) (nc ns : Nat) : Run sa E MC MS HX Q X kX5_copyFrom 0 L st M nc ns = bk sa E MC MS HX (Run sa E MC MS HX Q X kX5_copyFrom) Q X kX5_copyFrom_0 L st M nc ns := Run_eq sa E MC MS HX Q X _ _ _ _ _ _ _
def kX5_fine_0 : List Item := [(0, .iload_n 1, 1, 1, 1, 0, 0, 0, [], .null),
    (1, .ifCond .lt 19, 3, 20, 20, 2, 0, 0, [], .null),
    (4, .iload_n 1, 1, 1, 1, 0, 0, 0, [], .null),
    (5, .bipush 6, 2, 0, 0, 0, 0, 0, [], .int 6),
    (7, .if_icmp .ge 13, 3, 21, 20, 3, 0, 0, [], .null),
    (10, .aload_n 0, 1, 3, 0, 0, 0, 0, [], .null),
    (11, .getfield 9, 3, 26, 5, 0, 0, 0, [], .null),
    (14, .iload_n 1, 1, 1, 1, 0, 0, 0, [], .null),
    (15, .dup2, 1, 17, 0, 0, 0, 0, [], .null),
    (16, .iaload, 1, 31, 0, 0, 0, 0, [], .null),
    (17, .iconst 1, 1, 0, 0, 0, 0, 0, [], .int 1),
    (18, .iadd, 1, 8, 0, 0, 0, 0, [], .null),
    (19, .iastore, 1, 35, 0, 0, 0, 0, [], .null),
    (20, .return_, 1, 55, 0, 0, 0, 0, [], .null)]
def kX5_fine_20 : List Item := [(20, .return_, 1, 55, 0, 0, 0, 0, [], .null)]
def kX5_fine : Code9 := [(0, kX5_fine_0), (20, kX5_fine_20)]
theorem rX5_fine_0 (sa : Nat → Nat) (E : Nat → Sem) (MC MS : Nat) (HX : Nat → Nat → Option Nat) (Q : Option Value → Mm → Prop) (X : Nat → Mm → Prop) (L : List Slot) (st : List Value) (M : Mm) (nc ns : Nat) : Run sa E MC MS HX Q X kX5_fine 0 L st M nc ns = bk sa E MC MS HX (Run sa E MC MS HX Q X kX5_fine) Q X kX5_fine_0 L st M nc ns := Run_eq sa E MC MS HX Q X _ _ _ _ _ _ _
theorem rX5_fine_20 (sa : Nat → Nat) (E : Nat → Sem) (MC MS : Nat) (HX : Nat → Nat → Option Nat) (Q : Option Value → Mm → Prop) (X : Nat → Mm → Prop) (L : List Slot) (st : List Value) (M : Mm) (nc ns : Nat) : Run sa E MC MS HX Q X kX5_fine 20 L st M nc ns = bk sa E MC MS HX (Run sa E MC MS HX Q X kX5_fine) Q X kX5_fine_20 L st M nc ns := Run_eq sa E MC MS HX Q X _ _ _ _ _ _ _
def kX5_init_0 : List Item := [(0, .aload_n 0, 1, 3, 0, 0, 0, 0, [], .null),
    (1, .invokespecial 3, 3, 47, 0, 0, 0, 0, [], .null),
    (4, .aload_n 0, 1, 3, 0, 0, 0, 0, [], .null),
    (5, .bipush 6, 2, 0, 0, 0, 0, 0, [], .int 6),
    (7, .newarray .int, 2, 44, 0, 0, 0, 0, [], .null),
    (9, .putfield 9, 3, 29, 5, 0, 0, 0, [], .null),
    (12, .return_, 1, 55, 0, 0, 0, 0, [], .null)]
def kX5_init : Code9 := [(0, kX5_init_0)]
theorem rX5_init_0 (sa : Nat → Nat) (E : Nat → Sem) (MC MS : Nat) (HX : Nat → Nat → Option Nat) (Q : Option Value → Mm → Prop) (X : Nat → Mm → Prop) (L : List Slot) (st : List Value) (M : Mm) (nc ns : Nat) : Run sa E MC MS HX Q X kX5_init 0 L st M nc ns = bk sa E MC MS HX (Run sa E MC MS HX Q X kX5_init) Q X kX5_init_0 L st M nc ns := Run_eq sa E MC MS HX Q X _ _ _ _ _ _ _
def kX6_copyFrom_0 : List Item := [(0, .aload_n 1, 1, 3, 1, 0, 0, 0, [], .null),
    (1, .getfield 9, 3, 26, 6, 0, 0, 0, [], .null),
    (4, .aload_n 0, 1, 3, 0, 0, 0, 0, [], .null),
    (5, .getfield 9, 3, 26, 6, 0, 0, 0, [], .null),
    (8, .invokestatic 18, 3, 48, 80, 2, 0, 0, [], .null),
    (11, .aload_n 1, 1, 3, 1, 0, 0, 0, [], .null),
    (12, .getfield 15, 3, 26, 6, 1, 0, 0, [], .null),
    (15, .aload_n 0, 1, 3, 0, 0, 0, 0, [], .null),
    (16, .getfield 15, 3, 26, 6, 1, 0, 0, [], .null),
    (19, .invokestatic 18, 3, 48, 80, 2, 0, 0, [], .null),
    (22, .aload_n 0, 1, 3, 0, 0, 0, 0, [], .null),
    (23, .aload_n 1, 1, 3, 1, 0, 0, 0, [], .null),
    (24, .getfield 22, 3, 24, 6, 2, 0, 0, [], .null),
    (27, .putfield 22, 3, 27, 6, 2, 0, 0, [], .null),
    (30, .aload_n 0, 1, 3, 0, 0, 0, 0, [], .null),
    (31, .aload_n 1, 1, 3, 1, 0, 0, 0, [], .null),
    (32, .getfield 26, 3, 24, 6, 3, 0, 0, [], .null),
    (35, .putfield 26, 3, 27, 6, 3, 0, 0, [], .null),
    (38, .return_, 1, 55, 0, 0, 0, 0, [], .null)]
def kX6_copyFrom : Code9 := [(0, kX6_copyFrom_0)]
theorem rX6_copyFrom_0 (sa : Nat → Nat) (E : Nat → Sem) (MC MS : Nat) (HX : Nat → Nat → Option Nat) (Q : Option Value → Mm → Prop) (X : Nat → Mm → Prop) (L : List Slot) (st : List Value) (M : Mm) (nc ns : Nat) : Run sa E MC MS HX Q X kX6_copyFrom 0 L st M nc ns = bk sa E MC MS HX (Run sa E MC MS HX Q X kX6_copyFrom) Q X kX6_copyFrom_0 L st M nc ns := Run_eq sa E MC MS HX Q X _ _ _ _ _ _ _
def kX6_exchange_0 : List Item := [(0, .aload_n 0, 1, 3, 0, 0, 0, 0, [], .null),
    (1, .getfield 9, 3, 26, 6, 0, 0, 0, [], .null),
    (4, .iload_n 1, 1, 1, 1, 0, 0, 0, [], .null),
    (5, .iaload, 1, 31, 0, 0, 0, 0, [], .null),
    (6, .istore_n 3, 1, 4, 3, 0, 0, 0, [], .null),
    (7, .aload_n 0, 1, 3, 0, 0, 0, 0, [], .null),
    (8, .getfield 15, 3, 26, 6, 1, 0, 0, [], .null),
    (11, .iload_n 1, 1, 1, 1, 0, 0, 0, [], .null),
    (12, .iaload, 1, 31, 0, 0, 0, 0, [], .null),
    (13, .istore 4, 2, 4, 4, 0, 0, 0, [], .null),
    (15, .aload_n 0, 1, 3, 0, 0, 0, 0, [], .null),
    (16, .getfield 9, 3, 26, 6, 0, 0, 0, [], .null),
    (19, .iload_n 1, 1, 1, 1, 0, 0, 0, [], .null),
    (20, .aload_n 0, 1, 3, 0, 0, 0, 0, [], .null),
    (21, .getfield 9, 3, 26, 6, 0, 0, 0, [], .null),
    (24, .iload_n 2, 1, 1, 2, 0, 0, 0, [], .null),
    (25, .iaload, 1, 31, 0, 0, 0, 0, [], .null),
    (26, .iastore, 1, 35, 0, 0, 0, 0, [], .null),
    (27, .aload_n 0, 1, 3, 0, 0, 0, 0, [], .null),
    (28, .getfield 15, 3, 26, 6, 1, 0, 0, [], .null),
    (31, .iload_n 1, 1, 1, 1, 0, 0, 0, [], .null),
    (32, .aload_n 0, 1, 3, 0, 0, 0, 0, [], .null),
    (33, .getfield 15, 3, 26, 6, 1, 0, 0, [], .null),
    (36, .iload_n 2, 1, 1, 2, 0, 0, 0, [], .null),
    (37, .iaload, 1, 31, 0, 0, 0, 0, [], .null),
    (38, .iastore, 1, 35, 0, 0, 0, 0, [], .null),
    (39, .aload_n 0, 1, 3, 0, 0, 0, 0, [], .null),
    (40, .getfield 9, 3, 26, 6, 0, 0, 0, [], .null),
    (43, .iload_n 2, 1, 1, 2, 0, 0, 0, [], .null),
    (44, .iload_n 3, 1, 1, 3, 0, 0, 0, [], .null),
    (45, .iastore, 1, 35, 0, 0, 0, 0, [], .null),
    (46, .aload_n 0, 1, 3, 0, 0, 0, 0, [], .null),
    (47, .getfield 15, 3, 26, 6, 1, 0, 0, [], .null),
    (50, .iload_n 2, 1, 1, 2, 0, 0, 0, [], .null),
    (51, .iload 4, 2, 1, 4, 0, 0, 0, [], .null),
    (53, .iastore, 1, 35, 0, 0, 0, 0, [], .null),
    (54, .return_, 1, 55, 0, 0, 0, 0, [], .null)]
def kX6_exchange : Code9 := [(0, kX6_exchange_0)]
theorem rX6_exchange_0 (sa : Nat → Nat) (E : Nat → Sem) (MC MS : Nat) (HX : Nat → Nat → Option Nat) (Q : Option Value → Mm → Prop) (X : Nat → Mm → Prop) (L : List Slot) (st : List Value) (M : Mm) (nc ns : Nat) : Run sa E MC MS HX Q X kX6_exchange 0 L st M nc ns = bk sa E MC MS HX (Run sa E MC MS HX Q X kX6_exchange) Q X kX6_exchange_0 L st M nc ns := Run_eq sa E MC MS HX Q X _ _ _ _ _ _ _
def kX6_init_0 : List Item := [(0, .aload_n 0, 1, 3, 0, 0, 0, 0, [], .null),
    (1, .invokespecial 3, 3, 47, 0, 0, 0, 0, [], .null),
    (4, .aload_n 0, 1, 3, 0, 0, 0, 0, [], .null),
    (5, .bipush 12, 2, 0, 0, 0, 0, 0, [], .int 12),
    (7, .newarray .int, 2, 44, 0, 0, 0, 0, [], .null),
    (9, .putfield 9, 3, 29, 6, 0, 0, 0, [], .null),
    (12, .aload_n 0, 1, 3, 0, 0, 0, 0, [], .null),
    (13, .bipush 12, 2, 0, 0, 0, 0, 0, [], .int 12),
    (15, .newarray .int, 2, 44, 0, 0, 0, 0, [], .null),
    (17, .putfield 15, 3, 29, 6, 1, 0, 0, [], .null),
    (20, .return_, 1, 55, 0, 0, 0, 0, [], .null)]
def kX6_init : Code9 := [(0, kX6_init_0)]
theorem rX6_init_0 (sa : Nat → Nat) (E : Nat → Sem) (MC MS : Nat) (HX : Nat → Nat → Option Nat) (Q : Option Value → Mm → Prop) (X : Nat → Mm → Prop) (L : List Slot) (st : List Value) (M : Mm) (nc ns : Nat) : Run sa E MC MS HX Q X kX6_init 0 L st M nc ns = bk sa E MC MS HX (Run sa E MC MS HX Q X kX6_init) Q X kX6_init_0 L st M nc ns := Run_eq sa E MC MS HX Q X _ _ _ _ _ _ _
def kX6_villageIn_0 : List Item := [(0, .aload_n 0, 1, 3, 0, 0, 0, 0, [], .null),
    (1, .getfield 26, 3, 24, 6, 3, 0, 0, [], .null),
    (4, .ifCond .gt 5, 3, 20, 9, 4, 0, 0, [], .null),
    (7, .iconst (-1), 1, 0, 0, 0, 0, 0, [], .int (-1)),
    (8, .ireturn, 1, 56, 0, 0, 0, 0, [], .null)]
def kX6_villageIn_9 : List Item := [(9, .iload_n 1, 1, 1, 1, 0, 0, 0, [], .null),
    (10, .aload_n 0, 1, 3, 0, 0, 0, 0, [], .null),
    (11, .getfield 26, 3, 24, 6, 3, 0, 0, [], .null),
    (14, .irem, 1, 9, 0, 1, 0, 0, [], .null),
    (15, .istore_n 2, 1, 4, 2, 0, 0, 0, [], .null),
    (16, .iconst 0, 1, 0, 0, 0, 0, 0, [], .int 0),
    (17, .istore_n 3, 1, 4, 3, 0, 0, 0, [], .null),
    (18, .nop, 0, 60, 18, 0, 0, 0, [], .null)]
def kX6_villageIn_18 : List Item := [(18, .iload_n 3, 1, 1, 3, 0, 0, 0, [], .null),
    (19, .aload_n 0, 1, 3, 0, 0, 0, 0, [], .null),
    (20, .getfield 22, 3, 24, 6, 2, 0, 0, [], .null),
    (23, .if_icmp .ge 35, 3, 21, 58, 3, 0, 0, [], .null),
    (26, .iload_n 2, 1, 1, 2, 0, 0, 0, [], .null),
    (27, .aload_n 0, 1, 3, 0, 0, 0, 0, [], .null),
    (28, .getfield 15, 3, 26, 6, 1, 0, 0, [], .null),
    (31, .iload_n 3, 1, 1, 3, 0, 0, 0, [], .null),
    (32, .iaload, 1, 31, 0, 0, 0, 0, [], .null),
    (33, .if_icmp .ge 10, 3, 21, 43, 3, 0, 0, [], .null),
    (36, .aload_n 0, 1, 3, 0, 0, 0, 0, [], .null),
    (37, .getfield 9, 3, 26, 6, 0, 0, 0, [], .null),
    (40, .iload_n 3, 1, 1, 3, 0, 0, 0, [], .null),
    (41, .iaload, 1, 31, 0, 0, 0, 0, [], .null),
    (42, .ireturn, 1, 56, 0, 0, 0, 0, [], .null)]
def kX6_villageIn_43 : List Item := [(43, .iload_n 2, 1, 1, 2, 0, 0, 0, [], .null),
    (44, .aload_n 0, 1, 3, 0, 0, 0, 0, [], .null),
    (45, .getfield 15, 3, 26, 6, 1, 0, 0, [], .null),
    (48, .iload_n 3, 1, 1, 3, 0, 0, 0, [], .null),
    (49, .iaload, 1, 31, 0, 0, 0, 0, [], .null),
    (50, .isub, 1, 8, 0, 1, 0, 0, [], .null),
    (51, .istore_n 2, 1, 4, 2, 0, 0, 0, [], .null),
    (52, .iinc 3 1, 3, 7, 3, 0, 0, 0, [], .int 1),
    (55, .goto (-37), 3, 22, 18, 0, 0, 0, [], .null)]
def kX6_villageIn_58 : List Item := [(58, .iconst (-1), 1, 0, 0, 0, 0, 0, [], .int (-1)),
    (59, .ireturn, 1, 56, 0, 0, 0, 0, [], .null)]
def kX6_villageIn : Code9 := [(0, kX6_villageIn_0), (9, kX6_villageIn_9), (18, kX6_villageIn_18), (43, kX6_villageIn_43), (58, kX6_villageIn_58)]
theorem rX6_villageIn_0 (sa : Nat → Nat) (E : Nat → Sem) (MC MS : Nat) (HX : Nat → Nat → Option Nat) (Q : Option Value → Mm → Prop) (X : Nat → Mm → Prop) (L : List Slot) (st : List Value) (M : Mm) (nc ns : Nat) : Run sa E MC MS HX Q X kX6_villageIn 0 L st M nc ns = bk sa E MC MS HX (Run sa E MC MS HX Q X kX6_villageIn) Q X kX6_villageIn_0 L st M nc ns := Run_eq sa E MC MS HX Q X _ _ _ _ _ _ _
theorem rX6_villageIn_9 (sa : Nat → Nat) (E : Nat → Sem) (MC MS : Nat) (HX : Nat → Nat → Option Nat) (Q : Option Value → Mm → Prop) (X : Nat → Mm → Prop) (L : List Slot) (st : List Value) (M : Mm) (nc ns : Nat) : Run sa E MC MS HX Q X kX6_villageIn 9 L st M nc ns = bk sa E MC MS HX (Run sa E MC MS HX Q X kX6_villageIn) Q X kX6_villageIn_9 L st M nc ns := Run_eq sa E MC MS HX Q X _ _ _ _ _ _ _
theorem rX6_villageIn_18 (sa : Nat → Nat) (E : Nat → Sem) (MC MS : Nat) (HX : Nat → Nat → Option Nat) (Q : Option Value → Mm → Prop) (X : Nat → Mm → Prop) (L : List Slot) (st : List Value) (M : Mm) (nc ns : Nat) : Run sa E MC MS HX Q X kX6_villageIn 18 L st M nc ns = bk sa E MC MS HX (Run sa E MC MS HX Q X kX6_villageIn) Q X kX6_villageIn_18 L st M nc ns := Run_eq sa E MC MS HX Q X _ _ _ _ _ _ _
theorem rX6_villageIn_43 (sa : Nat → Nat) (E : Nat → Sem) (MC MS : Nat) (HX : Nat → Nat → Option Nat) (Q : Option Value → Mm → Prop) (X : Nat → Mm → Prop) (L : List Slot) (st : List Value) (M : Mm) (nc ns : Nat) : Run sa E MC MS HX Q X kX6_villageIn 43 L st M nc ns = bk sa E MC MS HX (Run sa E MC MS HX Q X kX6_villageIn) Q X kX6_villageIn_43 L st M nc ns := Run_eq sa E MC MS HX Q X _ _ _ _ _ _ _
theorem rX6_villageIn_58 (sa : Nat → Nat) (E : Nat → Sem) (MC MS : Nat) (HX : Nat → Nat → Option Nat) (Q : Option Value → Mm → Prop) (X : Nat → Mm → Prop) (L : List Slot) (st : List Value) (M : Mm) (nc ns : Nat) : Run sa E MC MS HX Q X kX6_villageIn 58 L st M nc ns = bk sa E MC MS HX (Run sa E MC MS HX Q X kX6_villageIn) Q X kX6_villageIn_58 L st M nc ns := Run_eq sa E MC MS HX Q X _ _ _ _ _ _ _
def kX7_addOperand_0 : List Item := [(0, .aload_n 0, 1, 3, 0, 0, 0, 0, [], .null),
    (1, .getfield 21, 3, 26, 7, 1, 0, 0, [], .null),
    (4, .getfield 103, 3, 26, 8, 4, 0, 0, [], .null),
    (7, .iload_n 1, 1, 1, 1, 0, 0, 0, [], .null),
    (8, .invokevirtual 201, 3, 48, 25, 2, 0, 0, [2], .null),
    (11, .aload_n 0, 1, 3, 0, 0, 0, 0, [], .null),
    (12, .getfield 12, 3, 26, 7, 0, 0, 0, [], .null),
    (15, .invokevirtual 112, 3, 48, 74, 1, 0, 0, [9], .null),
    (18, .return_, 1, 55, 0, 0, 0, 0, [], .null)]
def kX7_addOperand : Code9 := [(0, kX7_addOperand_0)]
theorem rX7_addOperand_0 (sa : Nat → Nat) (E : Nat → Sem) (MC MS : Nat) (HX : Nat → Nat → Option Nat) (Q : Option Value → Mm → Prop) (X : Nat → Mm → Prop) (L : List Slot) (st : List Value) (M : Mm) (nc ns : Nat) : Run sa E MC MS HX Q X kX7_addOperand 0 L st M nc ns = bk sa E MC MS HX (Run sa E MC MS HX Q X kX7_addOperand) Q X kX7_addOperand_0 L st M nc ns := Run_eq sa E MC MS HX Q X _ _ _ _ _ _ _
def kX7_fail_0 : List Item := [(0, .aload_n 0, 1, 3, 0, 0, 0, 0, [], .null),
    (1, .getfield 28, 3, 24, 7, 3, 0, 0, [], .null),
    (4, .ifCond .ne 19, 3, 20, 23, 1, 0, 0, [], .null),
    (7, .aload_n 0, 1, 3, 0, 0, 0, 0, [], .null),
    (8, .iload_n 1, 1, 1, 1, 0, 0, 0, [], .null),
    (9, .putfield 28, 3, 27, 7, 3, 0, 0, [], .null),
    (12, .aload_n 0, 1, 3, 0, 0, 0, 0, [], .null),
    (13, .aload_n 0, 1, 3, 0, 0, 0, 0, [], .null),
    (14, .getfield 12, 3, 26, 7, 0, 0, 0, [], .null),
    (17, .getfield 214, 3, 24, 9, 3, 0, 0, [], .null),
    (20, .putfield 32, 3, 27, 7, 2, 0, 0, [], .null),
    (23, .return_, 1, 55, 0, 0, 0, 0, [], .null)]
def kX7_fail_23 : List Item := [(23, .return_, 1, 55, 0, 0, 0, 0, [], .null)]
def kX7_fail : Code9 := [(0, kX7_fail_0), (23, kX7_fail_23)]
theorem rX7_fail_0 (sa : Nat → Nat) (E : Nat → Sem) (MC MS : Nat) (HX : Nat → Nat → Option Nat) (Q : Option Value → Mm → Prop) (X : Nat → Mm → Prop) (L : List Slot) (st : List Value) (M : Mm) (nc ns : Nat) : Run sa E MC MS HX Q X kX7_fail 0 L st M nc ns = bk sa E MC MS HX (Run sa E MC MS HX Q X kX7_fail) Q X kX7_fail_0 L st M nc ns := Run_eq sa E MC MS HX Q X _ _ _ _ _ _ _
theorem rX7_fail_23 (sa : Nat → Nat) (E : Nat → Sem) (MC MS : Nat) (HX : Nat → Nat → Option Nat) (Q : Option Value → Mm → Prop) (X : Nat → Mm → Prop) (L : List Slot) (st : List Value) (M : Mm) (nc ns : Nat) : Run sa E MC MS HX Q X kX7_fail 23 L st M nc ns = bk sa E MC MS HX (Run sa E MC MS HX Q X kX7_fail) Q X kX7_fail_23 L st M nc ns := Run_eq sa E MC MS HX Q X _ _ _ _ _ _ _
def kX7_init_0 : List Item := [(0, .aload_n 0, 1, 3, 0, 0, 0, 0, [], .null),
    (1, .invokespecial 3, 3, 47, 0, 0, 0, 0, [], .null),
    (4, .aload_n 0, 1, 3, 0, 0, 0, 0, [], .null),
    (5, .new 9, 3, 43, 9, 7, 0, 0, [], .null),
    (8, .dup, 1, 16, 0, 0, 0, 0, [], .null),
    (9, .invokespecial 11, 3, 48, 72, 1, 1, 900, [101], .null),
    (12, .putfield 12, 3, 29, 7, 0, 0, 0, [], .null),
    (15, .aload_n 0, 1, 3, 0, 0, 0, 0, [], .null),
    (16, .new 18, 3, 43, 8, 7, 0, 0, [], .null),
    (19, .dup, 1, 16, 0, 0, 0, 0, [], .null),
    (20, .invokespecial 20, 3, 48, 68, 1, 31, 1343, [101], .null),
    (23, .putfield 21, 3, 29, 7, 1, 0, 0, [], .null),
    (26, .return_, 1, 55, 0, 0, 0, 0, [], .null)]
def kX7_init : Code9 := [(0, kX7_init_0)]
theorem rX7_init_0 (sa : Nat → Nat) (E : Nat → Sem) (MC MS : Nat) (HX : Nat → Nat → Option Nat) (Q : Option Value → Mm → Prop) (X : Nat → Mm → Prop) (L : List Slot) (st : List Value) (M : Mm) (nc ns : Nat) : Run sa E MC MS HX Q X kX7_init 0 L st M nc ns = bk sa E MC MS HX (Run sa E MC MS HX Q X kX7_init) Q X kX7_init_0 L st M nc ns := Run_eq sa E MC MS HX Q X _ _ _ _ _ _ _
def kX7_readCanal_0 : List Item := [(0, .aload_n 1, 1, 3, 1, 0, 0, 0, [], .null),
    (1, .getfield 121, 3, 24, 0, 8, 0, 0, [], .null),
    (4, .istore_n 2, 1, 4, 2, 0, 0, 0, [], .null),
    (5, .iload_n 2, 1, 1, 2, 0, 0, 0, [], .null),
    (6, .bipush 16, 2, 0, 0, 0, 0, 0, [], .int 16),
    (8, .if_icmp .lt 10, 3, 21, 18, 2, 0, 0, [], .null),
    (11, .aload_n 0, 1, 3, 0, 0, 0, 0, [], .null),
    (12, .bipush (-4), 2, 0, 0, 0, 0, 0, [], .int (-4)),
    (14, .invokevirtual 118, 3, 48, 48, 2, 0, 0, [7], .null),
    (17, .return_, 1, 55, 0, 0, 0, 0, [], .null)]
def kX7_readCanal_18 : List Item := [(18, .aload_n 0, 1, 3, 0, 0, 0, 0, [], .null),
    (19, .getfield 12, 3, 26, 7, 0, 0, 0, [], .null),
    (22, .invokevirtual 112, 3, 48, 74, 1, 0, 0, [9], .null),
    (25, .aload_n 1, 1, 3, 1, 0, 0, 0, [], .null),
    (26, .getfield 126, 3, 26, 0, 0, 0, 0, [], .null),
    (29, .iload_n 2, 1, 1, 2, 0, 0, 0, [], .null),
    (30, .iload_n 2, 1, 1, 2, 0, 0, 0, [], .null),
    (31, .ifCond .ne 7, 3, 20, 38, 1, 0, 0, [], .null),
    (34, .iconst (-1), 1, 0, 0, 0, 0, 0, [], .int (-1)),
    (35, .goto 8, 3, 22, 43, 0, 0, 0, [], .null)]
def kX7_readCanal_38 : List Item := [(38, .aload_n 0, 1, 3, 0, 0, 0, 0, [], .null),
    (39, .iload_n 2, 1, 1, 2, 0, 0, 0, [], .null),
    (40, .invokevirtual 130, 3, 48, 56, 2, 0, 0, [7], .null),
    (43, .iastore, 1, 35, 0, 0, 0, 0, [], .null),
    (44, .aload_n 1, 1, 3, 1, 0, 0, 0, [], .null),
    (45, .getfield 134, 3, 26, 0, 1, 0, 0, [], .null),
    (48, .iload_n 2, 1, 1, 2, 0, 0, 0, [], .null),
    (49, .aload_n 0, 1, 3, 0, 0, 0, 0, [], .null),
    (50, .iconst 1, 1, 0, 0, 0, 0, 0, [], .int 1),
    (51, .bipush 6, 2, 0, 0, 0, 0, 0, [], .int 6),
    (53, .invokevirtual 137, 3, 48, 54, 3, 0, 0, [7], .null),
    (56, .iastore, 1, 35, 0, 0, 0, 0, [], .null),
    (57, .aload_n 1, 1, 3, 1, 0, 0, 0, [], .null),
    (58, .getfield 141, 3, 26, 0, 2, 0, 0, [], .null),
    (61, .iload_n 2, 1, 1, 2, 0, 0, 0, [], .null),
    (62, .aload_n 0, 1, 3, 0, 0, 0, 0, [], .null),
    (63, .iconst 0, 1, 0, 0, 0, 0, 0, [], .int 0),
    (64, .bipush 50, 2, 0, 0, 0, 0, 0, [], .int 50),
    (66, .invokevirtual 137, 3, 48, 54, 3, 0, 0, [7], .null),
    (69, .iastore, 1, 35, 0, 0, 0, 0, [], .null),
    (70, .aload_n 1, 1, 3, 1, 0, 0, 0, [], .null),
    (71, .getfield 144, 3, 26, 0, 3, 0, 0, [], .null),
    (74, .iload_n 2, 1, 1, 2, 0, 0, 0, [], .null),
    (75, .aload_n 0, 1, 3, 0, 0, 0, 0, [], .null),
    (76, .iconst 1, 1, 0, 0, 0, 0, 0, [], .int 1),
    (77, .sipush 9999, 3, 0, 0, 0, 0, 0, [], .int 9999),
    (80, .invokevirtual 137, 3, 48, 54, 3, 0, 0, [7], .null),
    (83, .iastore, 1, 35, 0, 0, 0, 0, [], .null),
    (84, .aload_n 1, 1, 3, 1, 0, 0, 0, [], .null),
    (85, .getfield 147, 3, 26, 0, 4, 0, 0, [], .null),
    (88, .iload_n 2, 1, 1, 2, 0, 0, 0, [], .null),
    (89, .aload_n 0, 1, 3, 0, 0, 0, 0, [], .null),
    (90, .ldc 150, 2, 52, 2, 0, 0, 0, [], .null),
    (92, .bipush 99, 2, 0, 0, 0, 0, 0, [], .int 99),
    (94, .iconst 1, 1, 0, 0, 0, 0, 0, [], .int 1),
    (95, .invokevirtual 151, 3, 48, 55, 4, 0, 0, [7], .null),
    (98, .iastore, 1, 35, 0, 0, 0, 0, [], .null),
    (99, .aload_n 1, 1, 3, 1, 0, 0, 0, [], .null),
    (100, .dup, 1, 16, 0, 0, 0, 0, [], .null),
    (101, .getfield 121, 3, 24, 0, 8, 0, 0, [], .null),
    (104, .iconst 1, 1, 0, 0, 0, 0, 0, [], .int 1),
    (105, .iadd, 1, 8, 0, 0, 0, 0, [], .null),
    (106, .putfield 121, 3, 27, 0, 8, 0, 0, [], .null),
    (109, .return_, 1, 55, 0, 0, 0, 0, [], .null)]
def kX7_readCanal_43 : List Item := [(43, .iastore, 1, 35, 0, 0, 0, 0, [], .null),
    (44, .aload_n 1, 1, 3, 1, 0, 0, 0, [], .null),
    (45, .getfield 134, 3, 26, 0, 1, 0, 0, [], .null),
    (48, .iload_n 2, 1, 1, 2, 0, 0, 0, [], .null),
    (49, .aload_n 0, 1, 3, 0, 0, 0, 0, [], .null),
    (50, .iconst 1, 1, 0, 0, 0, 0, 0, [], .int 1),
    (51, .bipush 6, 2, 0, 0, 0, 0, 0, [], .int 6),
    (53, .invokevirtual 137, 3, 48, 54, 3, 0, 0, [7], .null),
    (56, .iastore, 1, 35, 0, 0, 0, 0, [], .null),
    (57, .aload_n 1, 1, 3, 1, 0, 0, 0, [], .null),
    (58, .getfield 141, 3, 26, 0, 2, 0, 0, [], .null),
    (61, .iload_n 2, 1, 1, 2, 0, 0, 0, [], .null),
    (62, .aload_n 0, 1, 3, 0, 0, 0, 0, [], .null),
    (63, .iconst 0, 1, 0, 0, 0, 0, 0, [], .int 0),
    (64, .bipush 50, 2, 0, 0, 0, 0, 0, [], .int 50),
    (66, .invokevirtual 137, 3, 48, 54, 3, 0, 0, [7], .null),
    (69, .iastore, 1, 35, 0, 0, 0, 0, [], .null),
    (70, .aload_n 1, 1, 3, 1, 0, 0, 0, [], .null),
    (71, .getfield 144, 3, 26, 0, 3, 0, 0, [], .null),
    (74, .iload_n 2, 1, 1, 2, 0, 0, 0, [], .null),
    (75, .aload_n 0, 1, 3, 0, 0, 0, 0, [], .null),
    (76, .iconst 1, 1, 0, 0, 0, 0, 0, [], .int 1),
    (77, .sipush 9999, 3, 0, 0, 0, 0, 0, [], .int 9999),
    (80, .invokevirtual 137, 3, 48, 54, 3, 0, 0, [7], .null),
    (83, .iastore, 1, 35, 0, 0, 0, 0, [], .null),
    (84, .aload_n 1, 1, 3, 1, 0, 0, 0, [], .null),
    (85, .getfield 147, 3, 26, 0, 4, 0, 0, [], .null),
    (88, .iload_n 2, 1, 1, 2, 0, 0, 0, [], .null),
    (89, .aload_n 0, 1, 3, 0, 0, 0, 0, [], .null),
    (90, .ldc 150, 2, 52, 2, 0, 0, 0, [], .null),
    (92, .bipush 99, 2, 0, 0, 0, 0, 0, [], .int 99),
    (94, .iconst 1, 1, 0, 0, 0, 0, 0, [], .int 1),
    (95, .invokevirtual 151, 3, 48, 55, 4, 0, 0, [7], .null),
    (98, .iastore, 1, 35, 0, 0, 0, 0, [], .null),
    (99, .aload_n 1, 1, 3, 1, 0, 0, 0, [], .null),
    (100, .dup, 1, 16, 0, 0, 0, 0, [], .null),
    (101, .getfield 121, 3, 24, 0, 8, 0, 0, [], .null),
    (104, .iconst 1, 1, 0, 0, 0, 0, 0, [], .int 1),
    (105, .iadd, 1, 8, 0, 0, 0, 0, [], .null),
    (106, .putfield 121, 3, 27, 0, 8, 0, 0, [], .null),
    (109, .return_, 1, 55, 0, 0, 0, 0, [], .null)]
def kX7_readCanal : Code9 := [(0, kX7_readCanal_0), (18, kX7_readCanal_18), (38, kX7_readCanal_38), (43, kX7_readCanal_43)]
theorem rX7_readCanal_0 (sa : Nat → Nat) (E : Nat → Sem) (MC MS : Nat) (HX : Nat → Nat → Option Nat) (Q : Option Value → Mm → Prop) (X : Nat → Mm → Prop) (L : List Slot) (st : List Value) (M : Mm) (nc ns : Nat) : Run sa E MC MS HX Q X kX7_readCanal 0 L st M nc ns = bk sa E MC MS HX (Run sa E MC MS HX Q X kX7_readCanal) Q X kX7_readCanal_0 L st M nc ns := Run_eq sa E MC MS HX Q X _ _ _ _ _ _ _
theorem rX7_readCanal_18 (sa : Nat → Nat) (E : Nat → Sem) (MC MS : Nat) (HX : Nat → Nat → Option Nat) (Q : Option Value → Mm → Prop) (X : Nat → Mm → Prop) (L : List Slot) (st : List Value) (M : Mm) (nc ns : Nat) : Run sa E MC MS HX Q X kX7_readCanal 18 L st M nc ns = bk sa E MC MS HX (Run sa E MC MS HX Q X kX7_readCanal) Q X kX7_readCanal_18 L st M nc ns := Run_eq sa E MC MS HX Q X _ _ _ _ _ _ _
theorem rX7_readCanal_38 (sa : Nat → Nat) (E : Nat → Sem) (MC MS : Nat) (HX : Nat → Nat → Option Nat) (Q : Option Value → Mm → Prop) (X : Nat → Mm → Prop) (L : List Slot) (st : List Value) (M : Mm) (nc ns : Nat) : Run sa E MC MS HX Q X kX7_readCanal 38 L st M nc ns = bk sa E MC MS HX (Run sa E MC MS HX Q X kX7_readCanal) Q X kX7_readCanal_38 L st M nc ns := Run_eq sa E MC MS HX Q X _ _ _ _ _ _ _
theorem rX7_readCanal_43 (sa : Nat → Nat) (E : Nat → Sem) (MC MS : Nat) (HX : Nat → Nat → Option Nat) (Q : Option Value → Mm → Prop) (X : Nat → Mm → Prop) (L : List Slot) (st : List Value) (M : Mm) (nc ns : Nat) : Run sa E MC MS HX Q X kX7_readCanal 43 L st M nc ns = bk sa E MC MS HX (Run sa E MC MS HX Q X kX7_readCanal) Q X kX7_readCanal_43 L st M nc ns := Run_eq sa E MC MS HX Q X _ _ _ _ _ _ _
def kX7_readFactor_0 (d : Nat) : List Item := [(0, .aload_n 0, 1, 3, 0, 0, 0, 0, [], .null),
    (1, .getfield 12, 3, 26, 7, 0, 0, 0, [], .null),
    (4, .getfield 43, 3, 24, 9, 2, 0, 0, [], .null),
    (7, .bipush 40, 2, 0, 0, 0, 0, 0, [], .int 40),
    (9, .if_icmp .ne 17, 3, 21, 26, 1, 0, 0, [], .null),
    (12, .iload_n 1, 1, 1, 1, 0, 0, 0, [], .null),
    (13, .iconst 4, 1, 0, 0, 0, 0, 0, [], .int 4),
    (14, .if_icmp .lt 12, 3, 21, 26, 2, 0, 0, [], .null),
    (17, .aload_n 0, 1, 3, 0, 0, 0, 0, [], .null),
    (18, .bipush (-5), 2, 0, 0, 0, 0, 0, [], .int (-5)),
    (20, .invokevirtual 118, 3, 48, 48, 2, 0, 0, [7], .null),
    (23, .goto 118, 3, 22, 141, 0, 0, 0, [], .null)]
def kX7_readFactor_26 (d : Nat) : List Item := [(26, .aload_n 0, 1, 3, 0, 0, 0, 0, [], .null),
    (27, .getfield 12, 3, 26, 7, 0, 0, 0, [], .null),
    (30, .getfield 43, 3, 24, 9, 2, 0, 0, [], .null),
    (33, .bipush 40, 2, 0, 0, 0, 0, 0, [], .int 40),
    (35, .if_icmp .ne 26, 3, 21, 61, 1, 0, 0, [], .null),
    (38, .aload_n 0, 1, 3, 0, 0, 0, 0, [], .null),
    (39, .getfield 12, 3, 26, 7, 0, 0, 0, [], .null),
    (42, .invokevirtual 112, 3, 48, 74, 1, 0, 0, [9], .null),
    (45, .aload_n 0, 1, 3, 0, 0, 0, 0, [], .null),
    (46, .iload_n 1, 1, 1, 1, 0, 0, 0, [], .null),
    (47, .iconst 1, 1, 0, 0, 0, 0, 0, [], .int 1),
    (48, .iadd, 1, 8, 0, 0, 0, 0, [], .null),
    (49, .invokevirtual 115, 3, 48, 59 + 1000 * (d - 1), 2, 0, 0, [7], .null),
    (52, .aload_n 0, 1, 3, 0, 0, 0, 0, [], .null),
    (53, .bipush 41, 2, 0, 0, 0, 0, 0, [], .int 41),
    (55, .invokevirtual 49, 3, 48, 62, 2, 0, 0, [7], .null),
    (58, .goto 83, 3, 22, 141, 0, 0, 0, [], .null)]
def kX7_readFactor_61 (d : Nat) : List Item := [(61, .aload_n 0, 1, 3, 0, 0, 0, 0, [], .null),
    (62, .getfield 12, 3, 26, 7, 0, 0, 0, [], .null),
    (65, .ldc 207, 2, 52, 8, 0, 0, 0, [], .null),
    (67, .invokevirtual 55, 3, 48, 73, 2, 0, 0, [9], .null),
    (70, .ifCond .eq 11, 3, 20, 81, 0, 0, 0, [], .null),
    (73, .aload_n 0, 1, 3, 0, 0, 0, 0, [], .null),
    (74, .iconst (-1), 1, 0, 0, 0, 0, 0, [], .int (-1)),
    (75, .invokevirtual 209, 3, 48, 47, 2, 0, 0, [7], .null),
    (78, .goto 63, 3, 22, 141, 0, 0, 0, [], .null)]
def kX7_readFactor_81 (d : Nat) : List Item := [(81, .aload_n 0, 1, 3, 0, 0, 0, 0, [], .null),
    (82, .getfield 12, 3, 26, 7, 0, 0, 0, [], .null),
    (85, .ldc 212, 2, 52, 9, 0, 0, 0, [], .null),
    (87, .invokevirtual 55, 3, 48, 73, 2, 0, 0, [9], .null),
    (90, .ifCond .eq 12, 3, 20, 102, 0, 0, 0, [], .null),
    (93, .aload_n 0, 1, 3, 0, 0, 0, 0, [], .null),
    (94, .bipush (-2), 2, 0, 0, 0, 0, 0, [], .int (-2)),
    (96, .invokevirtual 209, 3, 48, 47, 2, 0, 0, [7], .null),
    (99, .goto 42, 3, 22, 141, 0, 0, 0, [], .null)]
def kX7_readFactor_102 (d : Nat) : List Item := [(102, .aload_n 0, 1, 3, 0, 0, 0, 0, [], .null),
    (103, .getfield 12, 3, 26, 7, 0, 0, 0, [], .null),
    (106, .ldc 77, 2, 52, 5, 0, 0, 0, [], .null),
    (108, .invokevirtual 55, 3, 48, 73, 2, 0, 0, [9], .null),
    (111, .ifCond .eq 12, 3, 20, 123, 0, 0, 0, [], .null),
    (114, .aload_n 0, 1, 3, 0, 0, 0, 0, [], .null),
    (115, .bipush (-3), 2, 0, 0, 0, 0, 0, [], .int (-3)),
    (117, .invokevirtual 209, 3, 48, 47, 2, 0, 0, [7], .null),
    (120, .goto 21, 3, 22, 141, 0, 0, 0, [], .null)]
def kX7_readFactor_123 (d : Nat) : List Item := [(123, .aload_n 0, 1, 3, 0, 0, 0, 0, [], .null),
    (124, .getfield 21, 3, 26, 7, 1, 0, 0, [], .null),
    (127, .getfield 103, 3, 26, 8, 4, 0, 0, [], .null),
    (130, .aload_n 0, 1, 3, 0, 0, 0, 0, [], .null),
    (131, .iconst 0, 1, 0, 0, 0, 0, 0, [], .int 0),
    (132, .sipush 9999, 3, 0, 0, 0, 0, 0, [], .int 9999),
    (135, .invokevirtual 137, 3, 48, 54, 3, 0, 0, [7], .null),
    (138, .invokevirtual 201, 3, 48, 25, 2, 0, 0, [2], .null),
    (141, .return_, 1, 55, 0, 0, 0, 0, [], .null)]
def kX7_readFactor_141 (d : Nat) : List Item := [(141, .return_, 1, 55, 0, 0, 0, 0, [], .null)]
def kX7_readFactor (d : Nat) : Code9 := [(0, kX7_readFactor_0 d), (26, kX7_readFactor_26 d), (61, kX7_readFactor_61 d), (81, kX7_readFactor_81 d), (102, kX7_readFactor_102 d), (123, kX7_readFactor_123 d), (141, kX7_readFactor_141 d)]
theorem rX7_readFactor_0 (sa : Nat → Nat) (E : Nat → Sem) (MC MS : Nat) (HX : Nat → Nat → Option Nat) (Q : Option Value → Mm → Prop) (X : Nat → Mm → Prop) (d : Nat) (L : List Slot) (st : List Value) (M : Mm) (nc ns : Nat) : Run sa E MC MS HX Q X (kX7_readFactor d) 0 L st M nc ns = bk sa E MC MS HX (Run sa E MC MS HX Q X (kX7_readFactor d)) Q X (kX7_readFactor_0 d) L st M nc ns := Run_eq sa E MC MS HX Q X _ _ _ _ _ _ _
theorem rX7_readFactor_26 (sa : Nat → Nat) (E : Nat → Sem) (MC MS : Nat) (HX : Nat → Nat → Option Nat) (Q : Option Value → Mm → Prop) (X : Nat → Mm → Prop) (d : Nat) (L : List Slot) (st : List Value) (M : Mm) (nc ns : Nat) : Run sa E MC MS HX Q X (kX7_readFactor d) 26 L st M nc ns = bk sa E MC MS HX (Run sa E MC MS HX Q X (kX7_readFactor d)) Q X (kX7_readFactor_26 d) L st M nc ns := Run_eq sa E MC MS HX Q X _ _ _ _ _ _ _
theorem rX7_readFactor_61 (sa : Nat → Nat) (E : Nat → Sem) (MC MS : Nat) (HX : Nat → Nat → Option Nat) (Q : Option Value → Mm → Prop) (X : Nat → Mm → Prop) (d : Nat) (L : List Slot) (st : List Value) (M : Mm) (nc ns : Nat) : Run sa E MC MS HX Q X (kX7_readFactor d) 61 L st M nc ns = bk sa E MC MS HX (Run sa E MC MS HX Q X (kX7_readFactor d)) Q X (kX7_readFactor_61 d) L st M nc ns := Run_eq sa E MC MS HX Q X _ _ _ _ _ _ _
theorem rX7_readFactor_81 (sa : Nat → Nat) (E : Nat → Sem) (MC MS : Nat) (HX : Nat → Nat → Option Nat) (Q : Option Value → Mm → Prop) (X : Nat → Mm → Prop) (d : Nat) (L : List Slot) (st : List Value) (M : Mm) (nc ns : Nat) : Run sa E MC MS HX Q X (kX7_readFactor d) 81 L st M nc ns = bk sa E MC MS HX (Run sa E MC MS HX Q X (kX7_readFactor d)) Q X (kX7_readFactor_81 d) L st M nc ns := Run_eq sa E MC MS HX Q X _ _ _ _ _ _ _
theorem rX7_readFactor_102 (sa : Nat → Nat) (E : Nat → Sem) (MC MS : Nat) (HX : Nat → Nat → Option Nat) (Q : Option Value → Mm → Prop) (X : Nat → Mm → Prop) (d : Nat) (L : List Slot) (st : List Value) (M : Mm) (nc ns : Nat) : Run sa E MC MS HX Q X (kX7_readFactor d) 102 L st M nc ns = bk sa E MC MS HX (Run sa E MC MS HX Q X (kX7_readFactor d)) Q X (kX7_readFactor_102 d) L st M nc ns := Run_eq sa E MC MS HX Q X _ _ _ _ _ _ _
theorem rX7_readFactor_123 (sa : Nat → Nat) (E : Nat → Sem) (MC MS : Nat) (HX : Nat → Nat → Option Nat) (Q : Option Value → Mm → Prop) (X : Nat → Mm → Prop) (d : Nat) (L : List Slot) (st : List Value) (M : Mm) (nc ns : Nat) : Run sa E MC MS HX Q X (kX7_readFactor d) 123 L st M nc ns = bk sa E MC MS HX (Run sa E MC MS HX Q X (kX7_readFactor d)) Q X (kX7_readFactor_123 d) L st M nc ns := Run_eq sa E MC MS HX Q X _ _ _ _ _ _ _
theorem rX7_readFactor_141 (sa : Nat → Nat) (E : Nat → Sem) (MC MS : Nat) (HX : Nat → Nat → Option Nat) (Q : Option Value → Mm → Prop) (X : Nat → Mm → Prop) (d : Nat) (L : List Slot) (st : List Value) (M : Mm) (nc ns : Nat) : Run sa E MC MS HX Q X (kX7_readFactor d) 141 L st M nc ns = bk sa E MC MS HX (Run sa E MC MS HX Q X (kX7_readFactor d)) Q X (kX7_readFactor_141 d) L st M nc ns := Run_eq sa E MC MS HX Q X _ _ _ _ _ _ _
def kX7_readField_0 : List Item := [(0, .aload_n 1, 1, 3, 1, 0, 0, 0, [], .null),
    (1, .getfield 157, 3, 24, 1, 11, 0, 0, [], .null),
    (4, .istore_n 2, 1, 4, 2, 0, 0, 0, [], .null),
    (5, .iload_n 2, 1, 1, 2, 0, 0, 0, [], .null),
    (6, .bipush 12, 2, 0, 0, 0, 0, 0, [], .int 12),
    (8, .if_icmp .lt 10, 3, 21, 18, 2, 0, 0, [], .null),
    (11, .aload_n 0, 1, 3, 0, 0, 0, 0, [], .null),
    (12, .bipush (-4), 2, 0, 0, 0, 0, 0, [], .int (-4)),
    (14, .invokevirtual 118, 3, 48, 48, 2, 0, 0, [7], .null),
    (17, .return_, 1, 55, 0, 0, 0, 0, [], .null)]
def kX7_readField_18 : List Item := [(18, .aload_n 0, 1, 3, 0, 0, 0, 0, [], .null),
    (19, .getfield 12, 3, 26, 7, 0, 0, 0, [], .null),
    (22, .invokevirtual 112, 3, 48, 74, 1, 0, 0, [9], .null),
    (25, .aload_n 1, 1, 3, 1, 0, 0, 0, [], .null),
    (26, .getfield 160, 3, 26, 1, 0, 0, 0, [], .null),
    (29, .iload_n 2, 1, 1, 2, 0, 0, 0, [], .null),
    (30, .aload_n 0, 1, 3, 0, 0, 0, 0, [], .null),
    (31, .iconst 0, 1, 0, 0, 0, 0, 0, [], .int 0),
    (32, .aload_n 0, 1, 3, 0, 0, 0, 0, [], .null),
    (33, .getfield 21, 3, 26, 7, 1, 0, 0, [], .null),
    (36, .getfield 59, 3, 26, 8, 0, 0, 0, [], .null),
    (39, .getfield 121, 3, 24, 0, 8, 0, 0, [], .null),
    (42, .iconst 1, 1, 0, 0, 0, 0, 0, [], .int 1),
    (43, .isub, 1, 8, 0, 1, 0, 0, [], .null),
    (44, .invokevirtual 137, 3, 48, 54, 3, 0, 0, [7], .null),
    (47, .iastore, 1, 35, 0, 0, 0, 0, [], .null),
    (48, .aload_n 1, 1, 3, 1, 0, 0, 0, [], .null),
    (49, .getfield 162, 3, 26, 1, 1, 0, 0, [], .null),
    (52, .iload_n 2, 1, 1, 2, 0, 0, 0, [], .null),
    (53, .aload_n 0, 1, 3, 0, 0, 0, 0, [], .null),
    (54, .iconst 0, 1, 0, 0, 0, 0, 0, [], .int 0),
    (55, .iconst 5, 1, 0, 0, 0, 0, 0, [], .int 5),
    (56, .invokevirtual 137, 3, 48, 54, 3, 0, 0, [7], .null),
    (59, .iastore, 1, 35, 0, 0, 0, 0, [], .null),
    (60, .aload_n 1, 1, 3, 1, 0, 0, 0, [], .null),
    (61, .getfield 165, 3, 26, 1, 2, 0, 0, [], .null),
    (64, .iload_n 2, 1, 1, 2, 0, 0, 0, [], .null),
    (65, .aload_n 0, 1, 3, 0, 0, 0, 0, [], .null),
    (66, .iconst 1, 1, 0, 0, 0, 0, 0, [], .int 1),
    (67, .sipush 999, 3, 0, 0, 0, 0, 0, [], .int 999),
    (70, .invokevirtual 137, 3, 48, 54, 3, 0, 0, [7], .null),
    (73, .iastore, 1, 35, 0, 0, 0, 0, [], .null),
    (74, .aload_n 1, 1, 3, 1, 0, 0, 0, [], .null),
    (75, .getfield 168, 3, 26, 1, 3, 0, 0, [], .null),
    (78, .iload_n 2, 1, 1, 2, 0, 0, 0, [], .null),
    (79, .aload_n 0, 1, 3, 0, 0, 0, 0, [], .null),
    (80, .iconst 0, 1, 0, 0, 0, 0, 0, [], .int 0),
    (81, .sipush 9999, 3, 0, 0, 0, 0, 0, [], .int 9999),
    (84, .invokevirtual 137, 3, 48, 54, 3, 0, 0, [7], .null),
    (87, .iastore, 1, 35, 0, 0, 0, 0, [], .null),
    (88, .aload_n 1, 1, 3, 1, 0, 0, 0, [], .null),
    (89, .getfield 171, 3, 26, 1, 4, 0, 0, [], .null),
    (92, .iload_n 2, 1, 1, 2, 0, 0, 0, [], .null),
    (93, .aload_n 0, 1, 3, 0, 0, 0, 0, [], .null),
    (94, .iconst 1, 1, 0, 0, 0, 0, 0, [], .int 1),
    (95, .sipush 9999, 3, 0, 0, 0, 0, 0, [], .int 9999),
    (98, .invokevirtual 137, 3, 48, 54, 3, 0, 0, [7], .null),
    (101, .iastore, 1, 35, 0, 0, 0, 0, [], .null),
    (102, .aload_n 1, 1, 3, 1, 0, 0, 0, [], .null),
    (103, .getfield 174, 3, 26, 1, 5, 0, 0, [], .null),
    (106, .iload_n 2, 1, 1, 2, 0, 0, 0, [], .null),
    (107, .aload_n 0, 1, 3, 0, 0, 0, 0, [], .null),
    (108, .iconst 0, 1, 0, 0, 0, 0, 0, [], .int 0),
    (109, .bipush 99, 2, 0, 0, 0, 0, 0, [], .int 99),
    (111, .invokevirtual 137, 3, 48, 54, 3, 0, 0, [7], .null),
    (114, .iastore, 1, 35, 0, 0, 0, 0, [], .null),
    (115, .aload_n 1, 1, 3, 1, 0, 0, 0, [], .null),
    (116, .getfield 177, 3, 26, 1, 6, 0, 0, [], .null),
    (119, .iload_n 2, 1, 1, 2, 0, 0, 0, [], .null),
    (120, .aload_n 0, 1, 3, 0, 0, 0, 0, [], .null),
    (121, .ldc 180, 2, 52, 4, 0, 0, 0, [], .null),
    (123, .iload_n 2, 1, 1, 2, 0, 0, 0, [], .null),
    (124, .iconst 1, 1, 0, 0, 0, 0, 0, [], .int 1),
    (125, .isub, 1, 8, 0, 1, 0, 0, [], .null),
    (126, .iconst (-1), 1, 0, 0, 0, 0, 0, [], .int (-1)),
    (127, .invokevirtual 151, 3, 48, 55, 4, 0, 0, [7], .null),
    (130, .iastore, 1, 35, 0, 0, 0, 0, [], .null),
    (131, .aload_n 1, 1, 3, 1, 0, 0, 0, [], .null),
    (132, .dup, 1, 16, 0, 0, 0, 0, [], .null),
    (133, .getfield 157, 3, 24, 1, 11, 0, 0, [], .null),
    (136, .iconst 1, 1, 0, 0, 0, 0, 0, [], .int 1),
    (137, .iadd, 1, 8, 0, 0, 0, 0, [], .null),
    (138, .putfield 157, 3, 27, 1, 11, 0, 0, [], .null),
    (141, .return_, 1, 55, 0, 0, 0, 0, [], .null)]
def kX7_readField : Code9 := [(0, kX7_readField_0), (18, kX7_readField_18)]
theorem rX7_readField_0 (sa : Nat → Nat) (E : Nat → Sem) (MC MS : Nat) (HX : Nat → Nat → Option Nat) (Q : Option Value → Mm → Prop) (X : Nat → Mm → Prop) (L : List Slot) (st : List Value) (M : Mm) (nc ns : Nat) : Run sa E MC MS HX Q X kX7_readField 0 L st M nc ns = bk sa E MC MS HX (Run sa E MC MS HX Q X kX7_readField) Q X kX7_readField_0 L st M nc ns := Run_eq sa E MC MS HX Q X _ _ _ _ _ _ _
theorem rX7_readField_18 (sa : Nat → Nat) (E : Nat → Sem) (MC MS : Nat) (HX : Nat → Nat → Option Nat) (Q : Option Value → Mm → Prop) (X : Nat → Mm → Prop) (L : List Slot) (st : List Value) (M : Mm) (nc ns : Nat) : Run sa E MC MS HX Q X kX7_readField 18 L st M nc ns = bk sa E MC MS HX (Run sa E MC MS HX Q X kX7_readField) Q X kX7_readField_18 L st M nc ns := Run_eq sa E MC MS HX Q X _ _ _ _ _ _ _
def kX7_readGuard_0 : List Item := [(0, .aload_n 0, 1, 3, 0, 0, 0, 0, [], .null),
    (1, .getfield 21, 3, 26, 7, 1, 0, 0, [], .null),
    (4, .getfield 59, 3, 26, 8, 0, 0, 0, [], .null),
    (7, .getfield 121, 3, 24, 0, 8, 0, 0, [], .null),
    (10, .istore_n 2, 1, 4, 2, 0, 0, 0, [], .null),
    (11, .aload_n 0, 1, 3, 0, 0, 0, 0, [], .null),
    (12, .getfield 12, 3, 26, 7, 0, 0, 0, [], .null),
    (15, .invokevirtual 112, 3, 48, 74, 1, 0, 0, [9], .null),
    (18, .aload_n 1, 1, 3, 1, 0, 0, 0, [], .null),
    (19, .aload_n 0, 1, 3, 0, 0, 0, 0, [], .null),
    (20, .iconst 0, 1, 0, 0, 0, 0, 0, [], .int 0),
    (21, .iload_n 2, 1, 1, 2, 0, 0, 0, [], .null),
    (22, .iconst 1, 1, 0, 0, 0, 0, 0, [], .int 1),
    (23, .isub, 1, 8, 0, 1, 0, 0, [], .null),
    (24, .invokevirtual 137, 3, 48, 54, 3, 0, 0, [7], .null),
    (27, .invokevirtual 192, 3, 48, 32, 2, 0, 0, [3], .null),
    (30, .iconst 1, 1, 0, 0, 0, 0, 0, [], .int 1),
    (31, .istore_n 3, 1, 4, 3, 0, 0, 0, [], .null),
    (32, .nop, 0, 60, 32, 0, 0, 0, [], .null)]
def kX7_readGuard_32 : List Item := [(32, .iload_n 3, 1, 1, 3, 0, 0, 0, [], .null),
    (33, .bipush 10, 2, 0, 0, 0, 0, 0, [], .int 10),
    (35, .if_icmp .gt 63, 3, 21, 98, 4, 0, 0, [], .null),
    (38, .aload_n 0, 1, 3, 0, 0, 0, 0, [], .null),
    (39, .getfield 28, 3, 24, 7, 3, 0, 0, [], .null),
    (42, .ifCond .ne 56, 3, 20, 98, 1, 0, 0, [], .null),
    (45, .aload_n 0, 1, 3, 0, 0, 0, 0, [], .null),
    (46, .getfield 12, 3, 26, 7, 0, 0, 0, [], .null),
    (49, .getfield 43, 3, 24, 9, 2, 0, 0, [], .null),
    (52, .bipush (-2), 2, 0, 0, 0, 0, 0, [], .int (-2)),
    (54, .if_icmp .ne 44, 3, 21, 98, 1, 0, 0, [], .null),
    (57, .iload_n 3, 1, 1, 3, 0, 0, 0, [], .null),
    (58, .bipush 10, 2, 0, 0, 0, 0, 0, [], .int 10),
    (60, .if_icmp .ne 20, 3, 21, 80, 1, 0, 0, [], .null),
    (63, .aload_n 0, 1, 3, 0, 0, 0, 0, [], .null),
    (64, .getfield 12, 3, 26, 7, 0, 0, 0, [], .null),
    (67, .getfield 195, 3, 24, 9, 4, 0, 0, [], .null),
    (70, .iload_n 2, 1, 1, 2, 0, 0, 0, [], .null),
    (71, .if_icmp .ge 9, 3, 21, 80, 3, 0, 0, [], .null),
    (74, .aload_n 0, 1, 3, 0, 0, 0, 0, [], .null),
    (75, .bipush (-4), 2, 0, 0, 0, 0, 0, [], .int (-4)),
    (77, .invokevirtual 118, 3, 48, 48, 2, 0, 0, [7], .null),
    (80, .aload_n 1, 1, 3, 1, 0, 0, 0, [], .null),
    (81, .aload_n 0, 1, 3, 0, 0, 0, 0, [], .null),
    (82, .iconst 0, 1, 0, 0, 0, 0, 0, [], .int 0),
    (83, .iload_n 2, 1, 1, 2, 0, 0, 0, [], .null),
    (84, .iconst 1, 1, 0, 0, 0, 0, 0, [], .int 1),
    (85, .isub, 1, 8, 0, 1, 0, 0, [], .null),
    (86, .invokevirtual 137, 3, 48, 54, 3, 0, 0, [7], .null),
    (89, .invokevirtual 192, 3, 48, 32, 2, 0, 0, [3], .null),
    (92, .iinc 3 1, 3, 7, 3, 0, 0, 0, [], .int 1),
    (95, .goto (-63), 3, 22, 32, 0, 0, 0, [], .null)]
def kX7_readGuard_80 : List Item := [(80, .aload_n 1, 1, 3, 1, 0, 0, 0, [], .null),
    (81, .aload_n 0, 1, 3, 0, 0, 0, 0, [], .null),
    (82, .iconst 0, 1, 0, 0, 0, 0, 0, [], .int 0),
    (83, .iload_n 2, 1, 1, 2, 0, 0, 0, [], .null),
    (84, .iconst 1, 1, 0, 0, 0, 0, 0, [], .int 1),
    (85, .isub, 1, 8, 0, 1, 0, 0, [], .null),
    (86, .invokevirtual 137, 3, 48, 54, 3, 0, 0, [7], .null),
    (89, .invokevirtual 192, 3, 48, 32, 2, 0, 0, [3], .null),
    (92, .iinc 3 1, 3, 7, 3, 0, 0, 0, [], .int 1),
    (95, .goto (-63), 3, 22, 32, 0, 0, 0, [], .null)]
def kX7_readGuard_98 : List Item := [(98, .return_, 1, 55, 0, 0, 0, 0, [], .null)]
def kX7_readGuard : Code9 := [(0, kX7_readGuard_0), (32, kX7_readGuard_32), (80, kX7_readGuard_80), (98, kX7_readGuard_98)]
theorem rX7_readGuard_0 (sa : Nat → Nat) (E : Nat → Sem) (MC MS : Nat) (HX : Nat → Nat → Option Nat) (Q : Option Value → Mm → Prop) (X : Nat → Mm → Prop) (L : List Slot) (st : List Value) (M : Mm) (nc ns : Nat) : Run sa E MC MS HX Q X kX7_readGuard 0 L st M nc ns = bk sa E MC MS HX (Run sa E MC MS HX Q X kX7_readGuard) Q X kX7_readGuard_0 L st M nc ns := Run_eq sa E MC MS HX Q X _ _ _ _ _ _ _
theorem rX7_readGuard_32 (sa : Nat → Nat) (E : Nat → Sem) (MC MS : Nat) (HX : Nat → Nat → Option Nat) (Q : Option Value → Mm → Prop) (X : Nat → Mm → Prop) (L : List Slot) (st : List Value) (M : Mm) (nc ns : Nat) : Run sa E MC MS HX Q X kX7_readGuard 32 L st M nc ns = bk sa E MC MS HX (Run sa E MC MS HX Q X kX7_readGuard) Q X kX7_readGuard_32 L st M nc ns := Run_eq sa E MC MS HX Q X _ _ _ _ _ _ _
theorem rX7_readGuard_80 (sa : Nat → Nat) (E : Nat → Sem) (MC MS : Nat) (HX : Nat → Nat → Option Nat) (Q : Option Value → Mm → Prop) (X : Nat → Mm → Prop) (L : List Slot) (st : List Value) (M : Mm) (nc ns : Nat) : Run sa E MC MS HX Q X kX7_readGuard 80 L st M nc ns = bk sa E MC MS HX (Run sa E MC MS HX Q X kX7_readGuard) Q X kX7_readGuard_80 L st M nc ns := Run_eq sa E MC MS HX Q X _ _ _ _ _ _ _
theorem rX7_readGuard_98 (sa : Nat → Nat) (E : Nat → Sem) (MC MS : Nat) (HX : Nat → Nat → Option Nat) (Q : Option Value → Mm → Prop) (X : Nat → Mm → Prop) (L : List Slot) (st : List Value) (M : Mm) (nc ns : Nat) : Run sa E MC MS HX Q X kX7_readGuard 98 L st M nc ns = bk sa E MC MS HX (Run sa E MC MS HX Q X kX7_readGuard) Q X kX7_readGuard_98 L st M nc ns := Run_eq sa E MC MS HX Q X _ _ _ _ _ _ _
def kX7_readNumber_0 : List Item := [(0, .aload_n 0, 1, 3, 0, 0, 0, 0, [], .null),
    (1, .getfield 12, 3, 26, 7, 0, 0, 0, [], .null),
    (4, .getfield 43, 3, 24, 9, 2, 0, 0, [], .null),
    (7, .bipush (-2), 2, 0, 0, 0, 0, 0, [], .int (-2)),
    (9, .if_icmp .eq 12, 3, 21, 21, 0, 0, 0, [], .null),
    (12, .aload_n 0, 1, 3, 0, 0, 0, 0, [], .null),
    (13, .bipush (-2), 2, 0, 0, 0, 0, 0, [], .int (-2)),
    (15, .invokevirtual 118, 3, 48, 48, 2, 0, 0, [7], .null),
    (18, .goto 31, 3, 22, 49, 0, 0, 0, [], .null)]
def kX7_readNumber_21 : List Item := [(21, .aload_n 0, 1, 3, 0, 0, 0, 0, [], .null),
    (22, .getfield 12, 3, 26, 7, 0, 0, 0, [], .null),
    (25, .getfield 195, 3, 24, 9, 4, 0, 0, [], .null),
    (28, .iload_n 1, 1, 1, 1, 0, 0, 0, [], .null),
    (29, .if_icmp .lt 14, 3, 21, 43, 2, 0, 0, [], .null),
    (32, .aload_n 0, 1, 3, 0, 0, 0, 0, [], .null),
    (33, .getfield 12, 3, 26, 7, 0, 0, 0, [], .null),
    (36, .getfield 195, 3, 24, 9, 4, 0, 0, [], .null),
    (39, .iload_n 2, 1, 1, 2, 0, 0, 0, [], .null),
    (40, .if_icmp .le 9, 3, 21, 49, 5, 0, 0, [], .null),
    (43, .aload_n 0, 1, 3, 0, 0, 0, 0, [], .null),
    (44, .bipush (-3), 2, 0, 0, 0, 0, 0, [], .int (-3)),
    (46, .invokevirtual 118, 3, 48, 48, 2, 0, 0, [7], .null),
    (49, .aload_n 0, 1, 3, 0, 0, 0, 0, [], .null),
    (50, .getfield 28, 3, 24, 7, 3, 0, 0, [], .null),
    (53, .ifCond .eq 5, 3, 20, 58, 0, 0, 0, [], .null),
    (56, .iconst (-1), 1, 0, 0, 0, 0, 0, [], .int (-1)),
    (57, .ireturn, 1, 56, 0, 0, 0, 0, [], .null)]
def kX7_readNumber_43 : List Item := [(43, .aload_n 0, 1, 3, 0, 0, 0, 0, [], .null),
    (44, .bipush (-3), 2, 0, 0, 0, 0, 0, [], .int (-3)),
    (46, .invokevirtual 118, 3, 48, 48, 2, 0, 0, [7], .null),
    (49, .aload_n 0, 1, 3, 0, 0, 0, 0, [], .null),
    (50, .getfield 28, 3, 24, 7, 3, 0, 0, [], .null),
    (53, .ifCond .eq 5, 3, 20, 58, 0, 0, 0, [], .null),
    (56, .iconst (-1), 1, 0, 0, 0, 0, 0, [], .int (-1)),
    (57, .ireturn, 1, 56, 0, 0, 0, 0, [], .null)]
def kX7_readNumber_49 : List Item := [(49, .aload_n 0, 1, 3, 0, 0, 0, 0, [], .null),
    (50, .getfield 28, 3, 24, 7, 3, 0, 0, [], .null),
    (53, .ifCond .eq 5, 3, 20, 58, 0, 0, 0, [], .null),
    (56, .iconst (-1), 1, 0, 0, 0, 0, 0, [], .int (-1)),
    (57, .ireturn, 1, 56, 0, 0, 0, 0, [], .null)]
def kX7_readNumber_58 : List Item := [(58, .aload_n 0, 1, 3, 0, 0, 0, 0, [], .null),
    (59, .getfield 12, 3, 26, 7, 0, 0, 0, [], .null),
    (62, .getfield 195, 3, 24, 9, 4, 0, 0, [], .null),
    (65, .istore_n 3, 1, 4, 3, 0, 0, 0, [], .null),
    (66, .aload_n 0, 1, 3, 0, 0, 0, 0, [], .null),
    (67, .getfield 12, 3, 26, 7, 0, 0, 0, [], .null),
    (70, .invokevirtual 112, 3, 48, 74, 1, 0, 0, [9], .null),
    (73, .iload_n 3, 1, 1, 3, 0, 0, 0, [], .null),
    (74, .ireturn, 1, 56, 0, 0, 0, 0, [], .null)]
def kX7_readNumber : Code9 := [(0, kX7_readNumber_0), (21, kX7_readNumber_21), (43, kX7_readNumber_43), (49, kX7_readNumber_49), (58, kX7_readNumber_58)]
theorem rX7_readNumber_0 (sa : Nat → Nat) (E : Nat → Sem) (MC MS : Nat) (HX : Nat → Nat → Option Nat) (Q : Option Value → Mm → Prop) (X : Nat → Mm → Prop) (L : List Slot) (st : List Value) (M : Mm) (nc ns : Nat) : Run sa E MC MS HX Q X kX7_readNumber 0 L st M nc ns = bk sa E MC MS HX (Run sa E MC MS HX Q X kX7_readNumber) Q X kX7_readNumber_0 L st M nc ns := Run_eq sa E MC MS HX Q X _ _ _ _ _ _ _
theorem rX7_readNumber_21 (sa : Nat → Nat) (E : Nat → Sem) (MC MS : Nat) (HX : Nat → Nat → Option Nat) (Q : Option Value → Mm → Prop) (X : Nat → Mm → Prop) (L : List Slot) (st : List Value) (M : Mm) (nc ns : Nat) : Run sa E MC MS HX Q X kX7_readNumber 21 L st M nc ns = bk sa E MC MS HX (Run sa E MC MS HX Q X kX7_readNumber) Q X kX7_readNumber_21 L st M nc ns := Run_eq sa E MC MS HX Q X _ _ _ _ _ _ _
theorem rX7_readNumber_43 (sa : Nat → Nat) (E : Nat → Sem) (MC MS : Nat) (HX : Nat → Nat → Option Nat) (Q : Option Value → Mm → Prop) (X : Nat → Mm → Prop) (L : List Slot) (st : List Value) (M : Mm) (nc ns : Nat) : Run sa E MC MS HX Q X kX7_readNumber 43 L st M nc ns = bk sa E MC MS HX (Run sa E MC MS HX Q X kX7_readNumber) Q X kX7_readNumber_43 L st M nc ns := Run_eq sa E MC MS HX Q X _ _ _ _ _ _ _
theorem rX7_readNumber_49 (sa : Nat → Nat) (E : Nat → Sem) (MC MS : Nat) (HX : Nat → Nat → Option Nat) (Q : Option Value → Mm → Prop) (X : Nat → Mm → Prop) (L : List Slot) (st : List Value) (M : Mm) (nc ns : Nat) : Run sa E MC MS HX Q X kX7_readNumber 49 L st M nc ns = bk sa E MC MS HX (Run sa E MC MS HX Q X kX7_readNumber) Q X kX7_readNumber_49 L st M nc ns := Run_eq sa E MC MS HX Q X _ _ _ _ _ _ _
theorem rX7_readNumber_58 (sa : Nat → Nat) (E : Nat → Sem) (MC MS : Nat) (HX : Nat → Nat → Option Nat) (Q : Option Value → Mm → Prop) (X : Nat → Mm → Prop) (L : List Slot) (st : List Value) (M : Mm) (nc ns : Nat) : Run sa E MC MS HX Q X kX7_readNumber 58 L st M nc ns = bk sa E MC MS HX (Run sa E MC MS HX Q X kX7_readNumber) Q X kX7_readNumber_58 L st M nc ns := Run_eq sa E MC MS HX Q X _ _ _ _ _ _ _
def kX7_readOptional_0 : List Item := [(0, .aload_n 0, 1, 3, 0, 0, 0, 0, [], .null),
    (1, .getfield 28, 3, 24, 7, 3, 0, 0, [], .null),
    (4, .ifCond .ne 14, 3, 20, 18, 1, 0, 0, [], .null),
    (7, .aload_n 0, 1, 3, 0, 0, 0, 0, [], .null),
    (8, .getfield 12, 3, 26, 7, 0, 0, 0, [], .null),
    (11, .aload_n 1, 1, 3, 1, 0, 0, 0, [], .null),
    (12, .invokevirtual 55, 3, 48, 73, 2, 0, 0, [9], .null),
    (15, .ifCond .ne 5, 3, 20, 20, 1, 0, 0, [], .null),
    (18, .iload_n 3, 1, 1, 3, 0, 0, 0, [], .null),
    (19, .ireturn, 1, 56, 0, 0, 0, 0, [], .null)]
def kX7_readOptional_18 : List Item := [(18, .iload_n 3, 1, 1, 3, 0, 0, 0, [], .null),
    (19, .ireturn, 1, 56, 0, 0, 0, 0, [], .null)]
def kX7_readOptional_20 : List Item := [(20, .aload_n 0, 1, 3, 0, 0, 0, 0, [], .null),
    (21, .getfield 12, 3, 26, 7, 0, 0, 0, [], .null),
    (24, .invokevirtual 112, 3, 48, 74, 1, 0, 0, [9], .null),
    (27, .aload_n 0, 1, 3, 0, 0, 0, 0, [], .null),
    (28, .iconst 0, 1, 0, 0, 0, 0, 0, [], .int 0),
    (29, .iload_n 2, 1, 1, 2, 0, 0, 0, [], .null),
    (30, .invokevirtual 137, 3, 48, 54, 3, 0, 0, [7], .null),
    (33, .ireturn, 1, 56, 0, 0, 0, 0, [], .null)]
def kX7_readOptional : Code9 := [(0, kX7_readOptional_0), (18, kX7_readOptional_18), (20, kX7_readOptional_20)]
theorem rX7_readOptional_0 (sa : Nat → Nat) (E : Nat → Sem) (MC MS : Nat) (HX : Nat → Nat → Option Nat) (Q : Option Value → Mm → Prop) (X : Nat → Mm → Prop) (L : List Slot) (st : List Value) (M : Mm) (nc ns : Nat) : Run sa E MC MS HX Q X kX7_readOptional 0 L st M nc ns = bk sa E MC MS HX (Run sa E MC MS HX Q X kX7_readOptional) Q X kX7_readOptional_0 L st M nc ns := Run_eq sa E MC MS HX Q X _ _ _ _ _ _ _
theorem rX7_readOptional_18 (sa : Nat → Nat) (E : Nat → Sem) (MC MS : Nat) (HX : Nat → Nat → Option Nat) (Q : Option Value → Mm → Prop) (X : Nat → Mm → Prop) (L : List Slot) (st : List Value) (M : Mm) (nc ns : Nat) : Run sa E MC MS HX Q X kX7_readOptional 18 L st M nc ns = bk sa E MC MS HX (Run sa E MC MS HX Q X kX7_readOptional) Q X kX7_readOptional_18 L st M nc ns := Run_eq sa E MC MS HX Q X _ _ _ _ _ _ _
theorem rX7_readOptional_20 (sa : Nat → Nat) (E : Nat → Sem) (MC MS : Nat) (HX : Nat → Nat → Option Nat) (Q : Option Value → Mm → Prop) (X : Nat → Mm → Prop) (L : List Slot) (st : List Value) (M : Mm) (nc ns : Nat) : Run sa E MC MS HX Q X kX7_readOptional 20 L st M nc ns = bk sa E MC MS HX (Run sa E MC MS HX Q X kX7_readOptional) Q X kX7_readOptional_20 L st M nc ns := Run_eq sa E MC MS HX Q X _ _ _ _ _ _ _
def kX7_readParent_0 : List Item := [(0, .aload_n 0, 1, 3, 0, 0, 0, 0, [], .null),
    (1, .getfield 12, 3, 26, 7, 0, 0, 0, [], .null),
    (4, .ldc 155, 2, 52, 1, 0, 0, 0, [], .null),
    (6, .invokevirtual 55, 3, 48, 73, 2, 0, 0, [9], .null),
    (9, .ifCond .ne 9, 3, 20, 18, 1, 0, 0, [], .null),
    (12, .aload_n 0, 1, 3, 0, 0, 0, 0, [], .null),
    (13, .bipush (-2), 2, 0, 0, 0, 0, 0, [], .int (-2)),
    (15, .invokevirtual 118, 3, 48, 48, 2, 0, 0, [7], .null),
    (18, .aload_n 0, 1, 3, 0, 0, 0, 0, [], .null),
    (19, .ldc 155, 2, 52, 1, 0, 0, 0, [], .null),
    (21, .iload_n 1, 1, 1, 1, 0, 0, 0, [], .null),
    (22, .iconst 1, 1, 0, 0, 0, 0, 0, [], .int 1),
    (23, .isub, 1, 8, 0, 1, 0, 0, [], .null),
    (24, .iconst (-1), 1, 0, 0, 0, 0, 0, [], .int (-1)),
    (25, .invokevirtual 151, 3, 48, 55, 4, 0, 0, [7], .null),
    (28, .ireturn, 1, 56, 0, 0, 0, 0, [], .null)]
def kX7_readParent_18 : List Item := [(18, .aload_n 0, 1, 3, 0, 0, 0, 0, [], .null),
    (19, .ldc 155, 2, 52, 1, 0, 0, 0, [], .null),
    (21, .iload_n 1, 1, 1, 1, 0, 0, 0, [], .null),
    (22, .iconst 1, 1, 0, 0, 0, 0, 0, [], .int 1),
    (23, .isub, 1, 8, 0, 1, 0, 0, [], .null),
    (24, .iconst (-1), 1, 0, 0, 0, 0, 0, [], .int (-1)),
    (25, .invokevirtual 151, 3, 48, 55, 4, 0, 0, [7], .null),
    (28, .ireturn, 1, 56, 0, 0, 0, 0, [], .null)]
def kX7_readParent : Code9 := [(0, kX7_readParent_0), (18, kX7_readParent_18)]
theorem rX7_readParent_0 (sa : Nat → Nat) (E : Nat → Sem) (MC MS : Nat) (HX : Nat → Nat → Option Nat) (Q : Option Value → Mm → Prop) (X : Nat → Mm → Prop) (L : List Slot) (st : List Value) (M : Mm) (nc ns : Nat) : Run sa E MC MS HX Q X kX7_readParent 0 L st M nc ns = bk sa E MC MS HX (Run sa E MC MS HX Q X kX7_readParent) Q X kX7_readParent_0 L st M nc ns := Run_eq sa E MC MS HX Q X _ _ _ _ _ _ _
theorem rX7_readParent_18 (sa : Nat → Nat) (E : Nat → Sem) (MC MS : Nat) (HX : Nat → Nat → Option Nat) (Q : Option Value → Mm → Prop) (X : Nat → Mm → Prop) (L : List Slot) (st : List Value) (M : Mm) (nc ns : Nat) : Run sa E MC MS HX Q X kX7_readParent 18 L st M nc ns = bk sa E MC MS HX (Run sa E MC MS HX Q X kX7_readParent) Q X kX7_readParent_18 L st M nc ns := Run_eq sa E MC MS HX Q X _ _ _ _ _ _ _
def kX7_readSetup_0 : List Item := [(0, .aload_n 0, 1, 3, 0, 0, 0, 0, [], .null),
    (1, .getfield 21, 3, 26, 7, 1, 0, 0, [], .null),
    (4, .invokevirtual 25, 3, 48, 67, 1, 0, 0, [8], .null),
    (7, .aload_n 0, 1, 3, 0, 0, 0, 0, [], .null),
    (8, .iconst 0, 1, 0, 0, 0, 0, 0, [], .int 0),
    (9, .putfield 28, 3, 27, 7, 3, 0, 0, [], .null),
    (12, .aload_n 0, 1, 3, 0, 0, 0, 0, [], .null),
    (13, .iconst (-1), 1, 0, 0, 0, 0, 0, [], .int (-1)),
    (14, .putfield 32, 3, 27, 7, 2, 0, 0, [], .null),
    (17, .aload_n 0, 1, 3, 0, 0, 0, 0, [], .null),
    (18, .iconst 0, 1, 0, 0, 0, 0, 0, [], .int 0),
    (19, .putfield 35, 3, 30, 7, 4, 0, 0, [], .null),
    (22, .aload_n 0, 1, 3, 0, 0, 0, 0, [], .null),
    (23, .getfield 12, 3, 26, 7, 0, 0, 0, [], .null),
    (26, .iload_n 1, 1, 1, 1, 0, 0, 0, [], .null),
    (27, .invokevirtual 39, 3, 48, 71, 2, 0, 0, [9], .null),
    (30, .iconst 0, 1, 0, 0, 0, 0, 0, [], .int 0),
    (31, .istore_n 2, 1, 4, 2, 0, 0, 0, [], .null),
    (32, .nop, 0, 60, 32, 0, 0, 0, [], .null)]
def kX7_readSetup_32 : List Item := [(32, .iload_n 2, 1, 1, 2, 0, 0, 0, [], .null),
    (33, .sipush 900, 3, 0, 0, 0, 0, 0, [], .int 900),
    (36, .if_icmp .gt 37, 3, 21, 73, 4, 0, 0, [], .null),
    (39, .aload_n 0, 1, 3, 0, 0, 0, 0, [], .null),
    (40, .getfield 28, 3, 24, 7, 3, 0, 0, [], .null),
    (43, .ifCond .ne 30, 3, 20, 73, 1, 0, 0, [], .null),
    (46, .aload_n 0, 1, 3, 0, 0, 0, 0, [], .null),
    (47, .getfield 12, 3, 26, 7, 0, 0, 0, [], .null),
    (50, .getfield 43, 3, 24, 9, 2, 0, 0, [], .null),
    (53, .iconst (-1), 1, 0, 0, 0, 0, 0, [], .int (-1)),
    (54, .if_icmp .eq 19, 3, 21, 73, 0, 0, 0, [], .null),
    (57, .aload_n 0, 1, 3, 0, 0, 0, 0, [], .null),
    (58, .invokevirtual 46, 3, 48, 58, 1, 0, 0, [7], .null),
    (61, .aload_n 0, 1, 3, 0, 0, 0, 0, [], .null),
    (62, .bipush 59, 2, 0, 0, 0, 0, 0, [], .int 59),
    (64, .invokevirtual 49, 3, 48, 62, 2, 0, 0, [7], .null),
    (67, .iinc 2 1, 3, 7, 2, 0, 0, 0, [], .int 1),
    (70, .goto (-38), 3, 22, 32, 0, 0, 0, [], .null)]
def kX7_readSetup_73 : List Item := [(73, .aload_n 0, 1, 3, 0, 0, 0, 0, [], .null),
    (74, .getfield 28, 3, 24, 7, 3, 0, 0, [], .null),
    (77, .ifCond .ne 7, 3, 20, 84, 1, 0, 0, [], .null),
    (80, .iload_n 2, 1, 1, 2, 0, 0, 0, [], .null),
    (81, .goto 7, 3, 22, 88, 0, 0, 0, [], .null)]
def kX7_readSetup_84 : List Item := [(84, .aload_n 0, 1, 3, 0, 0, 0, 0, [], .null),
    (85, .getfield 28, 3, 24, 7, 3, 0, 0, [], .null),
    (88, .ireturn, 1, 56, 0, 0, 0, 0, [], .null)]
def kX7_readSetup_88 : List Item := [(88, .ireturn, 1, 56, 0, 0, 0, 0, [], .null)]
def kX7_readSetup : Code9 := [(0, kX7_readSetup_0), (32, kX7_readSetup_32), (73, kX7_readSetup_73), (84, kX7_readSetup_84), (88, kX7_readSetup_88)]
theorem rX7_readSetup_0 (sa : Nat → Nat) (E : Nat → Sem) (MC MS : Nat) (HX : Nat → Nat → Option Nat) (Q : Option Value → Mm → Prop) (X : Nat → Mm → Prop) (L : List Slot) (st : List Value) (M : Mm) (nc ns : Nat) : Run sa E MC MS HX Q X kX7_readSetup 0 L st M nc ns = bk sa E MC MS HX (Run sa E MC MS HX Q X kX7_readSetup) Q X kX7_readSetup_0 L st M nc ns := Run_eq sa E MC MS HX Q X _ _ _ _ _ _ _
theorem rX7_readSetup_32 (sa : Nat → Nat) (E : Nat → Sem) (MC MS : Nat) (HX : Nat → Nat → Option Nat) (Q : Option Value → Mm → Prop) (X : Nat → Mm → Prop) (L : List Slot) (st : List Value) (M : Mm) (nc ns : Nat) : Run sa E MC MS HX Q X kX7_readSetup 32 L st M nc ns = bk sa E MC MS HX (Run sa E MC MS HX Q X kX7_readSetup) Q X kX7_readSetup_32 L st M nc ns := Run_eq sa E MC MS HX Q X _ _ _ _ _ _ _
theorem rX7_readSetup_73 (sa : Nat → Nat) (E : Nat → Sem) (MC MS : Nat) (HX : Nat → Nat → Option Nat) (Q : Option Value → Mm → Prop) (X : Nat → Mm → Prop) (L : List Slot) (st : List Value) (M : Mm) (nc ns : Nat) : Run sa E MC MS HX Q X kX7_readSetup 73 L st M nc ns = bk sa E MC MS HX (Run sa E MC MS HX Q X kX7_readSetup) Q X kX7_readSetup_73 L st M nc ns := Run_eq sa E MC MS HX Q X _ _ _ _ _ _ _
theorem rX7_readSetup_84 (sa : Nat → Nat) (E : Nat → Sem) (MC MS : Nat) (HX : Nat → Nat → Option Nat) (Q : Option Value → Mm → Prop) (X : Nat → Mm → Prop) (L : List Slot) (st : List Value) (M : Mm) (nc ns : Nat) : Run sa E MC MS HX Q X kX7_readSetup 84 L st M nc ns = bk sa E MC MS HX (Run sa E MC MS HX Q X kX7_readSetup) Q X kX7_readSetup_84 L st M nc ns := Run_eq sa E MC MS HX Q X _ _ _ _ _ _ _
theorem rX7_readSetup_88 (sa : Nat → Nat) (E : Nat → Sem) (MC MS : Nat) (HX : Nat → Nat → Option Nat) (Q : Option Value → Mm → Prop) (X : Nat → Mm → Prop) (L : List Slot) (st : List Value) (M : Mm) (nc ns : Nat) : Run sa E MC MS HX Q X kX7_readSetup 88 L st M nc ns = bk sa E MC MS HX (Run sa E MC MS HX Q X kX7_readSetup) Q X kX7_readSetup_88 L st M nc ns := Run_eq sa E MC MS HX Q X _ _ _ _ _ _ _
def kX7_readStatement_0 : List Item := [(0, .aload_n 0, 1, 3, 0, 0, 0, 0, [], .null),
    (1, .getfield 12, 3, 26, 7, 0, 0, 0, [], .null),
    (4, .ldc 53, 2, 52, 0, 0, 0, 0, [], .null),
    (6, .invokevirtual 55, 3, 48, 73, 2, 0, 0, [9], .null),
    (9, .ifCond .eq 17, 3, 20, 26, 0, 0, 0, [], .null),
    (12, .aload_n 0, 1, 3, 0, 0, 0, 0, [], .null),
    (13, .aload_n 0, 1, 3, 0, 0, 0, 0, [], .null),
    (14, .getfield 21, 3, 26, 7, 1, 0, 0, [], .null),
    (17, .getfield 59, 3, 26, 8, 0, 0, 0, [], .null),
    (20, .invokevirtual 63, 3, 48, 50, 2, 0, 0, [7], .null),
    (23, .goto 149, 3, 22, 172, 0, 0, 0, [], .null)]
def kX7_readStatement_26 : List Item := [(26, .aload_n 0, 1, 3, 0, 0, 0, 0, [], .null),
    (27, .getfield 12, 3, 26, 7, 0, 0, 0, [], .null),
    (30, .ldc 67, 2, 52, 3, 0, 0, 0, [], .null),
    (32, .invokevirtual 55, 3, 48, 73, 2, 0, 0, [9], .null),
    (35, .ifCond .eq 17, 3, 20, 52, 0, 0, 0, [], .null),
    (38, .aload_n 0, 1, 3, 0, 0, 0, 0, [], .null),
    (39, .aload_n 0, 1, 3, 0, 0, 0, 0, [], .null),
    (40, .getfield 21, 3, 26, 7, 1, 0, 0, [], .null),
    (43, .getfield 69, 3, 26, 8, 1, 0, 0, [], .null),
    (46, .invokevirtual 73, 3, 48, 52, 2, 0, 0, [7], .null),
    (49, .goto 123, 3, 22, 172, 0, 0, 0, [], .null)]
def kX7_readStatement_52 : List Item := [(52, .aload_n 0, 1, 3, 0, 0, 0, 0, [], .null),
    (53, .getfield 12, 3, 26, 7, 0, 0, 0, [], .null),
    (56, .ldc 77, 2, 52, 5, 0, 0, 0, [], .null),
    (58, .invokevirtual 55, 3, 48, 73, 2, 0, 0, [9], .null),
    (61, .ifCond .eq 17, 3, 20, 78, 0, 0, 0, [], .null),
    (64, .aload_n 0, 1, 3, 0, 0, 0, 0, [], .null),
    (65, .aload_n 0, 1, 3, 0, 0, 0, 0, [], .null),
    (66, .getfield 21, 3, 26, 7, 1, 0, 0, [], .null),
    (69, .getfield 79, 3, 26, 8, 2, 0, 0, [], .null),
    (72, .invokevirtual 83, 3, 48, 61, 2, 0, 0, [7], .null),
    (75, .goto 97, 3, 22, 172, 0, 0, 0, [], .null)]
def kX7_readStatement_78 : List Item := [(78, .aload_n 0, 1, 3, 0, 0, 0, 0, [], .null),
    (79, .getfield 12, 3, 26, 7, 0, 0, 0, [], .null),
    (82, .ldc 87, 2, 52, 6, 0, 0, 0, [], .null),
    (84, .invokevirtual 55, 3, 48, 73, 2, 0, 0, [9], .null),
    (87, .ifCond .eq 30, 3, 20, 117, 0, 0, 0, [], .null),
    (90, .aload_n 0, 1, 3, 0, 0, 0, 0, [], .null),
    (91, .getfield 21, 3, 26, 7, 1, 0, 0, [], .null),
    (94, .getfield 89, 3, 26, 8, 3, 0, 0, [], .null),
    (97, .getfield 92, 3, 24, 3, 1, 0, 0, [], .null),
    (100, .ifCond .ne 17, 3, 20, 117, 1, 0, 0, [], .null),
    (103, .aload_n 0, 1, 3, 0, 0, 0, 0, [], .null),
    (104, .aload_n 0, 1, 3, 0, 0, 0, 0, [], .null),
    (105, .getfield 21, 3, 26, 7, 1, 0, 0, [], .null),
    (108, .getfield 89, 3, 26, 8, 3, 0, 0, [], .null),
    (111, .invokevirtual 97, 3, 48, 53, 2, 0, 0, [7], .null),
    (114, .goto 58, 3, 22, 172, 0, 0, 0, [], .null)]
def kX7_readStatement_117 : List Item := [(117, .aload_n 0, 1, 3, 0, 0, 0, 0, [], .null),
    (118, .getfield 12, 3, 26, 7, 0, 0, 0, [], .null),
    (121, .ldc 101, 2, 52, 7, 0, 0, 0, [], .null),
    (123, .invokevirtual 55, 3, 48, 73, 2, 0, 0, [9], .null),
    (126, .ifCond .eq 40, 3, 20, 166, 0, 0, 0, [], .null),
    (129, .aload_n 0, 1, 3, 0, 0, 0, 0, [], .null),
    (130, .getfield 35, 3, 24, 7, 4, 0, 0, [], .null),
    (133, .ifCond .ne 33, 3, 20, 166, 1, 0, 0, [], .null),
    (136, .aload_n 0, 1, 3, 0, 0, 0, 0, [], .null),
    (137, .iconst 1, 1, 0, 0, 0, 0, 0, [], .int 1),
    (138, .putfield 35, 3, 30, 7, 4, 0, 0, [], .null),
    (141, .aload_n 0, 1, 3, 0, 0, 0, 0, [], .null),
    (142, .getfield 21, 3, 26, 7, 1, 0, 0, [], .null),
    (145, .getfield 103, 3, 26, 8, 4, 0, 0, [], .null),
    (148, .invokevirtual 107, 3, 48, 26, 1, 0, 0, [2], .null),
    (151, .aload_n 0, 1, 3, 0, 0, 0, 0, [], .null),
    (152, .getfield 12, 3, 26, 7, 0, 0, 0, [], .null),
    (155, .invokevirtual 112, 3, 48, 74, 1, 0, 0, [9], .null),
    (158, .aload_n 0, 1, 3, 0, 0, 0, 0, [], .null),
    (159, .iconst 0, 1, 0, 0, 0, 0, 0, [], .int 0),
    (160, .invokevirtual 115, 3, 48, 6059, 2, 0, 0, [7], .null),
    (163, .goto 9, 3, 22, 172, 0, 0, 0, [], .null)]
def kX7_readStatement_166 : List Item := [(166, .aload_n 0, 1, 3, 0, 0, 0, 0, [], .null),
    (167, .bipush (-2), 2, 0, 0, 0, 0, 0, [], .int (-2)),
    (169, .invokevirtual 118, 3, 48, 48, 2, 0, 0, [7], .null),
    (172, .return_, 1, 55, 0, 0, 0, 0, [], .null)]
def kX7_readStatement_172 : List Item := [(172, .return_, 1, 55, 0, 0, 0, 0, [], .null)]
def kX7_readStatement : Code9 := [(0, kX7_readStatement_0), (26, kX7_readStatement_26), (52, kX7_readStatement_52), (78, kX7_readStatement_78), (117, kX7_readStatement_117), (166, kX7_readStatement_166), (172, kX7_readStatement_172)]
theorem rX7_readStatement_0 (sa : Nat → Nat) (E : Nat → Sem) (MC MS : Nat) (HX : Nat → Nat → Option Nat) (Q : Option Value → Mm → Prop) (X : Nat → Mm → Prop) (L : List Slot) (st : List Value) (M : Mm) (nc ns : Nat) : Run sa E MC MS HX Q X kX7_readStatement 0 L st M nc ns = bk sa E MC MS HX (Run sa E MC MS HX Q X kX7_readStatement) Q X kX7_readStatement_0 L st M nc ns := Run_eq sa E MC MS HX Q X _ _ _ _ _ _ _
theorem rX7_readStatement_26 (sa : Nat → Nat) (E : Nat → Sem) (MC MS : Nat) (HX : Nat → Nat → Option Nat) (Q : Option Value → Mm → Prop) (X : Nat → Mm → Prop) (L : List Slot) (st : List Value) (M : Mm) (nc ns : Nat) : Run sa E MC MS HX Q X kX7_readStatement 26 L st M nc ns = bk sa E MC MS HX (Run sa E MC MS HX Q X kX7_readStatement) Q X kX7_readStatement_26 L st M nc ns := Run_eq sa E MC MS HX Q X _ _ _ _ _ _ _
theorem rX7_readStatement_52 (sa : Nat → Nat) (E : Nat → Sem) (MC MS : Nat) (HX : Nat → Nat → Option Nat) (Q : Option Value → Mm → Prop) (X : Nat → Mm → Prop) (L : List Slot) (st : List Value) (M : Mm) (nc ns : Nat) : Run sa E MC MS HX Q X kX7_readStatement 52 L st M nc ns = bk sa E MC MS HX (Run sa E MC MS HX Q X kX7_readStatement) Q X kX7_readStatement_52 L st M nc ns := Run_eq sa E MC MS HX Q X _ _ _ _ _ _ _
theorem rX7_readStatement_78 (sa : Nat → Nat) (E : Nat → Sem) (MC MS : Nat) (HX : Nat → Nat → Option Nat) (Q : Option Value → Mm → Prop) (X : Nat → Mm → Prop) (L : List Slot) (st : List Value) (M : Mm) (nc ns : Nat) : Run sa E MC MS HX Q X kX7_readStatement 78 L st M nc ns = bk sa E MC MS HX (Run sa E MC MS HX Q X kX7_readStatement) Q X kX7_readStatement_78 L st M nc ns := Run_eq sa E MC MS HX Q X _ _ _ _ _ _ _
theorem rX7_readStatement_117 (sa : Nat → Nat) (E : Nat → Sem) (MC MS : Nat) (HX : Nat → Nat → Option Nat) (Q : Option Value → Mm → Prop) (X : Nat → Mm → Prop) (L : List Slot) (st : List Value) (M : Mm) (nc ns : Nat) : Run sa E MC MS HX Q X kX7_readStatement 117 L st M nc ns = bk sa E MC MS HX (Run sa E MC MS HX Q X kX7_readStatement) Q X kX7_readStatement_117 L st M nc ns := Run_eq sa E MC MS HX Q X _ _ _ _ _ _ _
theorem rX7_readStatement_166 (sa : Nat → Nat) (E : Nat → Sem) (MC MS : Nat) (HX : Nat → Nat → Option Nat) (Q : Option Value → Mm → Prop) (X : Nat → Mm → Prop) (L : List Slot) (st : List Value) (M : Mm) (nc ns : Nat) : Run sa E MC MS HX Q X kX7_readStatement 166 L st M nc ns = bk sa E MC MS HX (Run sa E MC MS HX Q X kX7_readStatement) Q X kX7_readStatement_166 L st M nc ns := Run_eq sa E MC MS HX Q X _ _ _ _ _ _ _
theorem rX7_readStatement_172 (sa : Nat → Nat) (E : Nat → Sem) (MC MS : Nat) (HX : Nat → Nat → Option Nat) (Q : Option Value → Mm → Prop) (X : Nat → Mm → Prop) (L : List Slot) (st : List Value) (M : Mm) (nc ns : Nat) : Run sa E MC MS HX Q X kX7_readStatement 172 L st M nc ns = bk sa E MC MS HX (Run sa E MC MS HX Q X kX7_readStatement) Q X kX7_readStatement_172 L st M nc ns := Run_eq sa E MC MS HX Q X _ _ _ _ _ _ _
def kX7_readSum_0 (d : Nat) : List Item := [(0, .aload_n 0, 1, 3, 0, 0, 0, 0, [], .null),
    (1, .iload_n 1, 1, 1, 1, 0, 0, 0, [], .null),
    (2, .invokevirtual 198, 3, 48, 60 + 1000 * d, 2, 0, 0, [7], .null),
    (5, .iconst 0, 1, 0, 0, 0, 0, 0, [], .int 0),
    (6, .istore_n 2, 1, 4, 2, 0, 0, 0, [], .null),
    (7, .nop, 0, 60, 7, 0, 0, 0, [], .null)]
def kX7_readSum_7 (d : Nat) : List Item := [(7, .iload_n 2, 1, 1, 2, 0, 0, 0, [], .null),
    (8, .sipush 900, 3, 0, 0, 0, 0, 0, [], .int 900),
    (11, .if_icmp .ge 72, 3, 21, 83, 3, 0, 0, [], .null),
    (14, .aload_n 0, 1, 3, 0, 0, 0, 0, [], .null),
    (15, .getfield 28, 3, 24, 7, 3, 0, 0, [], .null),
    (18, .ifCond .ne 65, 3, 20, 83, 1, 0, 0, [], .null),
    (21, .aload_n 0, 1, 3, 0, 0, 0, 0, [], .null),
    (22, .getfield 12, 3, 26, 7, 0, 0, 0, [], .null),
    (25, .getfield 43, 3, 24, 9, 2, 0, 0, [], .null),
    (28, .istore_n 3, 1, 4, 3, 0, 0, 0, [], .null),
    (29, .iload_n 3, 1, 1, 3, 0, 0, 0, [], .null),
    (30, .bipush 43, 2, 0, 0, 0, 0, 0, [], .int 43),
    (32, .if_icmp .eq 10, 3, 21, 42, 0, 0, 0, [], .null),
    (35, .iload_n 3, 1, 1, 3, 0, 0, 0, [], .null),
    (36, .bipush 45, 2, 0, 0, 0, 0, 0, [], .int 45),
    (38, .if_icmp .eq 4, 3, 21, 42, 0, 0, 0, [], .null),
    (41, .return_, 1, 55, 0, 0, 0, 0, [], .null)]
def kX7_readSum_42 (d : Nat) : List Item := [(42, .aload_n 0, 1, 3, 0, 0, 0, 0, [], .null),
    (43, .getfield 12, 3, 26, 7, 0, 0, 0, [], .null),
    (46, .invokevirtual 112, 3, 48, 74, 1, 0, 0, [9], .null),
    (49, .aload_n 0, 1, 3, 0, 0, 0, 0, [], .null),
    (50, .iload_n 1, 1, 1, 1, 0, 0, 0, [], .null),
    (51, .invokevirtual 198, 3, 48, 60 + 1000 * d, 2, 0, 0, [7], .null),
    (54, .aload_n 0, 1, 3, 0, 0, 0, 0, [], .null),
    (55, .getfield 21, 3, 26, 7, 1, 0, 0, [], .null),
    (58, .getfield 103, 3, 26, 8, 4, 0, 0, [], .null),
    (61, .iload_n 3, 1, 1, 3, 0, 0, 0, [], .null),
    (62, .bipush 43, 2, 0, 0, 0, 0, 0, [], .int 43),
    (64, .if_icmp .ne 8, 3, 21, 72, 1, 0, 0, [], .null),
    (67, .bipush (-4), 2, 0, 0, 0, 0, 0, [], .int (-4)),
    (69, .goto 5, 3, 22, 74, 0, 0, 0, [], .null)]
def kX7_readSum_72 (d : Nat) : List Item := [(72, .bipush (-5), 2, 0, 0, 0, 0, 0, [], .int (-5)),
    (74, .invokevirtual 201, 3, 48, 25, 2, 0, 0, [2], .null),
    (77, .iinc 2 1, 3, 7, 2, 0, 0, 0, [], .int 1),
    (80, .goto (-73), 3, 22, 7, 0, 0, 0, [], .null)]
def kX7_readSum_74 (d : Nat) : List Item := [(74, .invokevirtual 201, 3, 48, 25, 2, 0, 0, [2], .null),
    (77, .iinc 2 1, 3, 7, 2, 0, 0, 0, [], .int 1),
    (80, .goto (-73), 3, 22, 7, 0, 0, 0, [], .null)]
def kX7_readSum_83 (d : Nat) : List Item := [(83, .return_, 1, 55, 0, 0, 0, 0, [], .null)]
def kX7_readSum (d : Nat) : Code9 := [(0, kX7_readSum_0 d), (7, kX7_readSum_7 d), (42, kX7_readSum_42 d), (72, kX7_readSum_72 d), (74, kX7_readSum_74 d), (83, kX7_readSum_83 d)]
theorem rX7_readSum_0 (sa : Nat → Nat) (E : Nat → Sem) (MC MS : Nat) (HX : Nat → Nat → Option Nat) (Q : Option Value → Mm → Prop) (X : Nat → Mm → Prop) (d : Nat) (L : List Slot) (st : List Value) (M : Mm) (nc ns : Nat) : Run sa E MC MS HX Q X (kX7_readSum d) 0 L st M nc ns = bk sa E MC MS HX (Run sa E MC MS HX Q X (kX7_readSum d)) Q X (kX7_readSum_0 d) L st M nc ns := Run_eq sa E MC MS HX Q X _ _ _ _ _ _ _
theorem rX7_readSum_7 (sa : Nat → Nat) (E : Nat → Sem) (MC MS : Nat) (HX : Nat → Nat → Option Nat) (Q : Option Value → Mm → Prop) (X : Nat → Mm → Prop) (d : Nat) (L : List Slot) (st : List Value) (M : Mm) (nc ns : Nat) : Run sa E MC MS HX Q X (kX7_readSum d) 7 L st M nc ns = bk sa E MC MS HX (Run sa E MC MS HX Q X (kX7_readSum d)) Q X (kX7_readSum_7 d) L st M nc ns := Run_eq sa E MC MS HX Q X _ _ _ _ _ _ _
theorem rX7_readSum_42 (sa : Nat → Nat) (E : Nat → Sem) (MC MS : Nat) (HX : Nat → Nat → Option Nat) (Q : Option Value → Mm → Prop) (X : Nat → Mm → Prop) (d : Nat) (L : List Slot) (st : List Value) (M : Mm) (nc ns : Nat) : Run sa E MC MS HX Q X (kX7_readSum d) 42 L st M nc ns = bk sa E MC MS HX (Run sa E MC MS HX Q X (kX7_readSum d)) Q X (kX7_readSum_42 d) L st M nc ns := Run_eq sa E MC MS HX Q X _ _ _ _ _ _ _
theorem rX7_readSum_72 (sa : Nat → Nat) (E : Nat → Sem) (MC MS : Nat) (HX : Nat → Nat → Option Nat) (Q : Option Value → Mm → Prop) (X : Nat → Mm → Prop) (d : Nat) (L : List Slot) (st : List Value) (M : Mm) (nc ns : Nat) : Run sa E MC MS HX Q X (kX7_readSum d) 72 L st M nc ns = bk sa E MC MS HX (Run sa E MC MS HX Q X (kX7_readSum d)) Q X (kX7_readSum_72 d) L st M nc ns := Run_eq sa E MC MS HX Q X _ _ _ _ _ _ _
theorem rX7_readSum_74 (sa : Nat → Nat) (E : Nat → Sem) (MC MS : Nat) (HX : Nat → Nat → Option Nat) (Q : Option Value → Mm → Prop) (X : Nat → Mm → Prop) (d : Nat) (L : List Slot) (st : List Value) (M : Mm) (nc ns : Nat) : Run sa E MC MS HX Q X (kX7_readSum d) 74 L st M nc ns = bk sa E MC MS HX (Run sa E MC MS HX Q X (kX7_readSum d)) Q X (kX7_readSum_74 d) L st M nc ns := Run_eq sa E MC MS HX Q X _ _ _ _ _ _ _
theorem rX7_readSum_83 (sa : Nat → Nat) (E : Nat → Sem) (MC MS : Nat) (HX : Nat → Nat → Option Nat) (Q : Option Value → Mm → Prop) (X : Nat → Mm → Prop) (d : Nat) (L : List Slot) (st : List Value) (M : Mm) (nc ns : Nat) : Run sa E MC MS HX Q X (kX7_readSum d) 83 L st M nc ns = bk sa E MC MS HX (Run sa E MC MS HX Q X (kX7_readSum d)) Q X (kX7_readSum_83 d) L st M nc ns := Run_eq sa E MC MS HX Q X _ _ _ _ _ _ _
def kX7_readTerm_0 (d : Nat) : List Item := [(0, .aload_n 0, 1, 3, 0, 0, 0, 0, [], .null),
    (1, .iload_n 1, 1, 1, 1, 0, 0, 0, [], .null),
    (2, .invokevirtual 204, 3, 48, 51 + 1000 * d, 2, 0, 0, [7], .null),
    (5, .iconst 0, 1, 0, 0, 0, 0, 0, [], .int 0),
    (6, .istore_n 2, 1, 4, 2, 0, 0, 0, [], .null),
    (7, .nop, 0, 60, 7, 0, 0, 0, [], .null)]
def kX7_readTerm_7 (d : Nat) : List Item := [(7, .iload_n 2, 1, 1, 2, 0, 0, 0, [], .null),
    (8, .sipush 900, 3, 0, 0, 0, 0, 0, [], .int 900),
    (11, .if_icmp .ge 72, 3, 21, 83, 3, 0, 0, [], .null),
    (14, .aload_n 0, 1, 3, 0, 0, 0, 0, [], .null),
    (15, .getfield 28, 3, 24, 7, 3, 0, 0, [], .null),
    (18, .ifCond .ne 65, 3, 20, 83, 1, 0, 0, [], .null),
    (21, .aload_n 0, 1, 3, 0, 0, 0, 0, [], .null),
    (22, .getfield 12, 3, 26, 7, 0, 0, 0, [], .null),
    (25, .getfield 43, 3, 24, 9, 2, 0, 0, [], .null),
    (28, .istore_n 3, 1, 4, 3, 0, 0, 0, [], .null),
    (29, .iload_n 3, 1, 1, 3, 0, 0, 0, [], .null),
    (30, .bipush 42, 2, 0, 0, 0, 0, 0, [], .int 42),
    (32, .if_icmp .eq 10, 3, 21, 42, 0, 0, 0, [], .null),
    (35, .iload_n 3, 1, 1, 3, 0, 0, 0, [], .null),
    (36, .bipush 47, 2, 0, 0, 0, 0, 0, [], .int 47),
    (38, .if_icmp .eq 4, 3, 21, 42, 0, 0, 0, [], .null),
    (41, .return_, 1, 55, 0, 0, 0, 0, [], .null)]
def kX7_readTerm_42 (d : Nat) : List Item := [(42, .aload_n 0, 1, 3, 0, 0, 0, 0, [], .null),
    (43, .getfield 12, 3, 26, 7, 0, 0, 0, [], .null),
    (46, .invokevirtual 112, 3, 48, 74, 1, 0, 0, [9], .null),
    (49, .aload_n 0, 1, 3, 0, 0, 0, 0, [], .null),
    (50, .iload_n 1, 1, 1, 1, 0, 0, 0, [], .null),
    (51, .invokevirtual 204, 3, 48, 51 + 1000 * d, 2, 0, 0, [7], .null),
    (54, .aload_n 0, 1, 3, 0, 0, 0, 0, [], .null),
    (55, .getfield 21, 3, 26, 7, 1, 0, 0, [], .null),
    (58, .getfield 103, 3, 26, 8, 4, 0, 0, [], .null),
    (61, .iload_n 3, 1, 1, 3, 0, 0, 0, [], .null),
    (62, .bipush 42, 2, 0, 0, 0, 0, 0, [], .int 42),
    (64, .if_icmp .ne 8, 3, 21, 72, 1, 0, 0, [], .null),
    (67, .bipush (-6), 2, 0, 0, 0, 0, 0, [], .int (-6)),
    (69, .goto 5, 3, 22, 74, 0, 0, 0, [], .null)]
def kX7_readTerm_72 (d : Nat) : List Item := [(72, .bipush (-7), 2, 0, 0, 0, 0, 0, [], .int (-7)),
    (74, .invokevirtual 201, 3, 48, 25, 2, 0, 0, [2], .null),
    (77, .iinc 2 1, 3, 7, 2, 0, 0, 0, [], .int 1),
    (80, .goto (-73), 3, 22, 7, 0, 0, 0, [], .null)]
def kX7_readTerm_74 (d : Nat) : List Item := [(74, .invokevirtual 201, 3, 48, 25, 2, 0, 0, [2], .null),
    (77, .iinc 2 1, 3, 7, 2, 0, 0, 0, [], .int 1),
    (80, .goto (-73), 3, 22, 7, 0, 0, 0, [], .null)]
def kX7_readTerm_83 (d : Nat) : List Item := [(83, .return_, 1, 55, 0, 0, 0, 0, [], .null)]
def kX7_readTerm (d : Nat) : Code9 := [(0, kX7_readTerm_0 d), (7, kX7_readTerm_7 d), (42, kX7_readTerm_42 d), (72, kX7_readTerm_72 d), (74, kX7_readTerm_74 d), (83, kX7_readTerm_83 d)]
theorem rX7_readTerm_0 (sa : Nat → Nat) (E : Nat → Sem) (MC MS : Nat) (HX : Nat → Nat → Option Nat) (Q : Option Value → Mm → Prop) (X : Nat → Mm → Prop) (d : Nat) (L : List Slot) (st : List Value) (M : Mm) (nc ns : Nat) : Run sa E MC MS HX Q X (kX7_readTerm d) 0 L st M nc ns = bk sa E MC MS HX (Run sa E MC MS HX Q X (kX7_readTerm d)) Q X (kX7_readTerm_0 d) L st M nc ns := Run_eq sa E MC MS HX Q X _ _ _ _ _ _ _
theorem rX7_readTerm_7 (sa : Nat → Nat) (E : Nat → Sem) (MC MS : Nat) (HX : Nat → Nat → Option Nat) (Q : Option Value → Mm → Prop) (X : Nat → Mm → Prop) (d : Nat) (L : List Slot) (st : List Value) (M : Mm) (nc ns : Nat) : Run sa E MC MS HX Q X (kX7_readTerm d) 7 L st M nc ns = bk sa E MC MS HX (Run sa E MC MS HX Q X (kX7_readTerm d)) Q X (kX7_readTerm_7 d) L st M nc ns := Run_eq sa E MC MS HX Q X _ _ _ _ _ _ _
theorem rX7_readTerm_42 (sa : Nat → Nat) (E : Nat → Sem) (MC MS : Nat) (HX : Nat → Nat → Option Nat) (Q : Option Value → Mm → Prop) (X : Nat → Mm → Prop) (d : Nat) (L : List Slot) (st : List Value) (M : Mm) (nc ns : Nat) : Run sa E MC MS HX Q X (kX7_readTerm d) 42 L st M nc ns = bk sa E MC MS HX (Run sa E MC MS HX Q X (kX7_readTerm d)) Q X (kX7_readTerm_42 d) L st M nc ns := Run_eq sa E MC MS HX Q X _ _ _ _ _ _ _
theorem rX7_readTerm_72 (sa : Nat → Nat) (E : Nat → Sem) (MC MS : Nat) (HX : Nat → Nat → Option Nat) (Q : Option Value → Mm → Prop) (X : Nat → Mm → Prop) (d : Nat) (L : List Slot) (st : List Value) (M : Mm) (nc ns : Nat) : Run sa E MC MS HX Q X (kX7_readTerm d) 72 L st M nc ns = bk sa E MC MS HX (Run sa E MC MS HX Q X (kX7_readTerm d)) Q X (kX7_readTerm_72 d) L st M nc ns := Run_eq sa E MC MS HX Q X _ _ _ _ _ _ _
theorem rX7_readTerm_74 (sa : Nat → Nat) (E : Nat → Sem) (MC MS : Nat) (HX : Nat → Nat → Option Nat) (Q : Option Value → Mm → Prop) (X : Nat → Mm → Prop) (d : Nat) (L : List Slot) (st : List Value) (M : Mm) (nc ns : Nat) : Run sa E MC MS HX Q X (kX7_readTerm d) 74 L st M nc ns = bk sa E MC MS HX (Run sa E MC MS HX Q X (kX7_readTerm d)) Q X (kX7_readTerm_74 d) L st M nc ns := Run_eq sa E MC MS HX Q X _ _ _ _ _ _ _
theorem rX7_readTerm_83 (sa : Nat → Nat) (E : Nat → Sem) (MC MS : Nat) (HX : Nat → Nat → Option Nat) (Q : Option Value → Mm → Prop) (X : Nat → Mm → Prop) (d : Nat) (L : List Slot) (st : List Value) (M : Mm) (nc ns : Nat) : Run sa E MC MS HX Q X (kX7_readTerm d) 83 L st M nc ns = bk sa E MC MS HX (Run sa E MC MS HX Q X (kX7_readTerm d)) Q X (kX7_readTerm_83 d) L st M nc ns := Run_eq sa E MC MS HX Q X _ _ _ _ _ _ _
def kX7_readTurn_0 : List Item := [(0, .aload_n 1, 1, 3, 1, 0, 0, 0, [], .null),
    (1, .getfield 182, 3, 24, 6, 2, 0, 0, [], .null),
    (4, .istore_n 2, 1, 4, 2, 0, 0, 0, [], .null),
    (5, .iload_n 2, 1, 1, 2, 0, 0, 0, [], .null),
    (6, .bipush 12, 2, 0, 0, 0, 0, 0, [], .int 12),
    (8, .if_icmp .lt 10, 3, 21, 18, 2, 0, 0, [], .null),
    (11, .aload_n 0, 1, 3, 0, 0, 0, 0, [], .null),
    (12, .bipush (-4), 2, 0, 0, 0, 0, 0, [], .int (-4)),
    (14, .invokevirtual 118, 3, 48, 48, 2, 0, 0, [7], .null),
    (17, .return_, 1, 55, 0, 0, 0, 0, [], .null)]
def kX7_readTurn_18 : List Item := [(18, .aload_n 0, 1, 3, 0, 0, 0, 0, [], .null),
    (19, .getfield 12, 3, 26, 7, 0, 0, 0, [], .null),
    (22, .invokevirtual 112, 3, 48, 74, 1, 0, 0, [9], .null),
    (25, .aload_n 1, 1, 3, 1, 0, 0, 0, [], .null),
    (26, .getfield 185, 3, 26, 6, 0, 0, 0, [], .null),
    (29, .iload_n 2, 1, 1, 2, 0, 0, 0, [], .null),
    (30, .aload_n 0, 1, 3, 0, 0, 0, 0, [], .null),
    (31, .iconst 0, 1, 0, 0, 0, 0, 0, [], .int 0),
    (32, .iconst 5, 1, 0, 0, 0, 0, 0, [], .int 5),
    (33, .invokevirtual 137, 3, 48, 54, 3, 0, 0, [7], .null),
    (36, .iastore, 1, 35, 0, 0, 0, 0, [], .null),
    (37, .aload_n 1, 1, 3, 1, 0, 0, 0, [], .null),
    (38, .getfield 186, 3, 26, 6, 1, 0, 0, [], .null),
    (41, .iload_n 2, 1, 1, 2, 0, 0, 0, [], .null),
    (42, .aload_n 0, 1, 3, 0, 0, 0, 0, [], .null),
    (43, .iconst 1, 1, 0, 0, 0, 0, 0, [], .int 1),
    (44, .bipush 99, 2, 0, 0, 0, 0, 0, [], .int 99),
    (46, .invokevirtual 137, 3, 48, 54, 3, 0, 0, [7], .null),
    (49, .iastore, 1, 35, 0, 0, 0, 0, [], .null),
    (50, .aload_n 1, 1, 3, 1, 0, 0, 0, [], .null),
    (51, .dup, 1, 16, 0, 0, 0, 0, [], .null),
    (52, .getfield 189, 3, 24, 6, 3, 0, 0, [], .null),
    (55, .aload_n 1, 1, 3, 1, 0, 0, 0, [], .null),
    (56, .getfield 186, 3, 26, 6, 1, 0, 0, [], .null),
    (59, .iload_n 2, 1, 1, 2, 0, 0, 0, [], .null),
    (60, .iaload, 1, 31, 0, 0, 0, 0, [], .null),
    (61, .iadd, 1, 8, 0, 0, 0, 0, [], .null),
    (62, .putfield 189, 3, 27, 6, 3, 0, 0, [], .null),
    (65, .aload_n 1, 1, 3, 1, 0, 0, 0, [], .null),
    (66, .dup, 1, 16, 0, 0, 0, 0, [], .null),
    (67, .getfield 182, 3, 24, 6, 2, 0, 0, [], .null),
    (70, .iconst 1, 1, 0, 0, 0, 0, 0, [], .int 1),
    (71, .iadd, 1, 8, 0, 0, 0, 0, [], .null),
    (72, .putfield 182, 3, 27, 6, 2, 0, 0, [], .null),
    (75, .return_, 1, 55, 0, 0, 0, 0, [], .null)]
def kX7_readTurn : Code9 := [(0, kX7_readTurn_0), (18, kX7_readTurn_18)]
theorem rX7_readTurn_0 (sa : Nat → Nat) (E : Nat → Sem) (MC MS : Nat) (HX : Nat → Nat → Option Nat) (Q : Option Value → Mm → Prop) (X : Nat → Mm → Prop) (L : List Slot) (st : List Value) (M : Mm) (nc ns : Nat) : Run sa E MC MS HX Q X kX7_readTurn 0 L st M nc ns = bk sa E MC MS HX (Run sa E MC MS HX Q X kX7_readTurn) Q X kX7_readTurn_0 L st M nc ns := Run_eq sa E MC MS HX Q X _ _ _ _ _ _ _
theorem rX7_readTurn_18 (sa : Nat → Nat) (E : Nat → Sem) (MC MS : Nat) (HX : Nat → Nat → Option Nat) (Q : Option Value → Mm → Prop) (X : Nat → Mm → Prop) (L : List Slot) (st : List Value) (M : Mm) (nc ns : Nat) : Run sa E MC MS HX Q X kX7_readTurn 18 L st M nc ns = bk sa E MC MS HX (Run sa E MC MS HX Q X kX7_readTurn) Q X kX7_readTurn_18 L st M nc ns := Run_eq sa E MC MS HX Q X _ _ _ _ _ _ _
def kX7_skipSign_0 : List Item := [(0, .aload_n 0, 1, 3, 0, 0, 0, 0, [], .null),
    (1, .getfield 12, 3, 26, 7, 0, 0, 0, [], .null),
    (4, .getfield 43, 3, 24, 9, 2, 0, 0, [], .null),
    (7, .iload_n 1, 1, 1, 1, 0, 0, 0, [], .null),
    (8, .if_icmp .eq 12, 3, 21, 20, 0, 0, 0, [], .null),
    (11, .aload_n 0, 1, 3, 0, 0, 0, 0, [], .null),
    (12, .bipush (-2), 2, 0, 0, 0, 0, 0, [], .int (-2)),
    (14, .invokevirtual 118, 3, 48, 48, 2, 0, 0, [7], .null),
    (17, .goto 10, 3, 22, 27, 0, 0, 0, [], .null)]
def kX7_skipSign_20 : List Item := [(20, .aload_n 0, 1, 3, 0, 0, 0, 0, [], .null),
    (21, .getfield 12, 3, 26, 7, 0, 0, 0, [], .null),
    (24, .invokevirtual 112, 3, 48, 74, 1, 0, 0, [9], .null),
    (27, .return_, 1, 55, 0, 0, 0, 0, [], .null)]
def kX7_skipSign_27 : List Item := [(27, .return_, 1, 55, 0, 0, 0, 0, [], .null)]
def kX7_skipSign : Code9 := [(0, kX7_skipSign_0), (20, kX7_skipSign_20), (27, kX7_skipSign_27)]
theorem rX7_skipSign_0 (sa : Nat → Nat) (E : Nat → Sem) (MC MS : Nat) (HX : Nat → Nat → Option Nat) (Q : Option Value → Mm → Prop) (X : Nat → Mm → Prop) (L : List Slot) (st : List Value) (M : Mm) (nc ns : Nat) : Run sa E MC MS HX Q X kX7_skipSign 0 L st M nc ns = bk sa E MC MS HX (Run sa E MC MS HX Q X kX7_skipSign) Q X kX7_skipSign_0 L st M nc ns := Run_eq sa E MC MS HX Q X _ _ _ _ _ _ _
theorem rX7_skipSign_20 (sa : Nat → Nat) (E : Nat → Sem) (MC MS : Nat) (HX : Nat → Nat → Option Nat) (Q : Option Value → Mm → Prop) (X : Nat → Mm → Prop) (L : List Slot) (st : List Value) (M : Mm) (nc ns : Nat) : Run sa E MC MS HX Q X kX7_skipSign 20 L st M nc ns = bk sa E MC MS HX (Run sa E MC MS HX Q X kX7_skipSign) Q X kX7_skipSign_20 L st M nc ns := Run_eq sa E MC MS HX Q X _ _ _ _ _ _ _
theorem rX7_skipSign_27 (sa : Nat → Nat) (E : Nat → Sem) (MC MS : Nat) (HX : Nat → Nat → Option Nat) (Q : Option Value → Mm → Prop) (X : Nat → Mm → Prop) (L : List Slot) (st : List Value) (M : Mm) (nc ns : Nat) : Run sa E MC MS HX Q X kX7_skipSign 27 L st M nc ns = bk sa E MC MS HX (Run sa E MC MS HX Q X kX7_skipSign) Q X kX7_skipSign_27 L st M nc ns := Run_eq sa E MC MS HX Q X _ _ _ _ _ _ _
def kX8_closeForcedGates_0 : List Item := [(0, .iconst 0, 1, 0, 0, 0, 0, 0, [], .int 0),
    (1, .istore_n 2, 1, 4, 2, 0, 0, 0, [], .null),
    (2, .nop, 0, 60, 2, 0, 0, 0, [], .null)]
def kX8_closeForcedGates_2 : List Item := [(2, .iload_n 2, 1, 1, 2, 0, 0, 0, [], .null),
    (3, .aload_n 0, 1, 3, 0, 0, 0, 0, [], .null),
    (4, .getfield 21, 3, 26, 8, 1, 0, 0, [], .null),
    (7, .getfield 57, 3, 24, 1, 11, 0, 0, [], .null),
    (10, .if_icmp .ge 60, 3, 21, 70, 3, 0, 0, [], .null),
    (13, .aload_n 0, 1, 3, 0, 0, 0, 0, [], .null),
    (14, .getfield 21, 3, 26, 8, 1, 0, 0, [], .null),
    (17, .getfield 175, 3, 26, 1, 0, 0, 0, [], .null),
    (20, .iload_n 2, 1, 1, 2, 0, 0, 0, [], .null),
    (21, .iaload, 1, 31, 0, 0, 0, 0, [], .null),
    (22, .iload_n 1, 1, 1, 1, 0, 0, 0, [], .null),
    (23, .if_icmp .ne 41, 3, 21, 64, 1, 0, 0, [], .null),
    (26, .aload_n 0, 1, 3, 0, 0, 0, 0, [], .null),
    (27, .getfield 21, 3, 26, 8, 1, 0, 0, [], .null),
    (30, .getfield 178, 3, 26, 1, 10, 0, 0, [], .null),
    (33, .iload_n 2, 1, 1, 2, 0, 0, 0, [], .null),
    (34, .baload, 1, 31, 1, 0, 0, 0, [], .null),
    (35, .ifCond .eq 29, 3, 20, 64, 0, 0, 0, [], .null),
    (38, .aload_n 0, 1, 3, 0, 0, 0, 0, [], .null),
    (39, .getfield 21, 3, 26, 8, 1, 0, 0, [], .null),
    (42, .getfield 178, 3, 26, 1, 10, 0, 0, [], .null),
    (45, .iload_n 2, 1, 1, 2, 0, 0, 0, [], .null),
    (46, .iconst 0, 1, 0, 0, 0, 0, 0, [], .int 0),
    (47, .bastore, 1, 35, 1, 0, 0, 0, [], .null),
    (48, .aload_n 0, 1, 3, 0, 0, 0, 0, [], .null),
    (49, .getfield 49, 3, 26, 8, 5, 0, 0, [], .null),
    (52, .aload_n 0, 1, 3, 0, 0, 0, 0, [], .null),
    (53, .getfield 21, 3, 26, 8, 1, 0, 0, [], .null),
    (56, .getfield 182, 3, 26, 1, 1, 0, 0, [], .null),
    (59, .iload_n 2, 1, 1, 2, 0, 0, 0, [], .null),
    (60, .iaload, 1, 31, 0, 0, 0, 0, [], .null),
    (61, .invokevirtual 185, 3, 48, 41, 2, 0, 0, [5], .null),
    (64, .iinc 2 1, 3, 7, 2, 0, 0, 0, [], .int 1),
    (67, .goto (-65), 3, 22, 2, 0, 0, 0, [], .null)]
def kX8_closeForcedGates_64 : List Item := [(64, .iinc 2 1, 3, 7, 2, 0, 0, 0, [], .int 1),
    (67, .goto (-65), 3, 22, 2, 0, 0, 0, [], .null)]
def kX8_closeForcedGates_70 : List Item := [(70, .return_, 1, 55, 0, 0, 0, 0, [], .null)]
def kX8_closeForcedGates : Code9 := [(0, kX8_closeForcedGates_0), (2, kX8_closeForcedGates_2), (64, kX8_closeForcedGates_64), (70, kX8_closeForcedGates_70)]
theorem rX8_closeForcedGates_0 (sa : Nat → Nat) (E : Nat → Sem) (MC MS : Nat) (HX : Nat → Nat → Option Nat) (Q : Option Value → Mm → Prop) (X : Nat → Mm → Prop) (L : List Slot) (st : List Value) (M : Mm) (nc ns : Nat) : Run sa E MC MS HX Q X kX8_closeForcedGates 0 L st M nc ns = bk sa E MC MS HX (Run sa E MC MS HX Q X kX8_closeForcedGates) Q X kX8_closeForcedGates_0 L st M nc ns := Run_eq sa E MC MS HX Q X _ _ _ _ _ _ _
theorem rX8_closeForcedGates_2 (sa : Nat → Nat) (E : Nat → Sem) (MC MS : Nat) (HX : Nat → Nat → Option Nat) (Q : Option Value → Mm → Prop) (X : Nat → Mm → Prop) (L : List Slot) (st : List Value) (M : Mm) (nc ns : Nat) : Run sa E MC MS HX Q X kX8_closeForcedGates 2 L st M nc ns = bk sa E MC MS HX (Run sa E MC MS HX Q X kX8_closeForcedGates) Q X kX8_closeForcedGates_2 L st M nc ns := Run_eq sa E MC MS HX Q X _ _ _ _ _ _ _
theorem rX8_closeForcedGates_64 (sa : Nat → Nat) (E : Nat → Sem) (MC MS : Nat) (HX : Nat → Nat → Option Nat) (Q : Option Value → Mm → Prop) (X : Nat → Mm → Prop) (L : List Slot) (st : List Value) (M : Mm) (nc ns : Nat) : Run sa E MC MS HX Q X kX8_closeForcedGates 64 L st M nc ns = bk sa E MC MS HX (Run sa E MC MS HX Q X kX8_closeForcedGates) Q X kX8_closeForcedGates_64 L st M nc ns := Run_eq sa E MC MS HX Q X _ _ _ _ _ _ _
theorem rX8_closeForcedGates_70 (sa : Nat → Nat) (E : Nat → Sem) (MC MS : Nat) (HX : Nat → Nat → Option Nat) (Q : Option Value → Mm → Prop) (X : Nat → Mm → Prop) (L : List Slot) (st : List Value) (M : Mm) (nc ns : Nat) : Run sa E MC MS HX Q X kX8_closeForcedGates 70 L st M nc ns = bk sa E MC MS HX (Run sa E MC MS HX Q X kX8_closeForcedGates) Q X kX8_closeForcedGates_70 L st M nc ns := Run_eq sa E MC MS HX Q X _ _ _ _ _ _ _
def kX8_copyFrom_0 : List Item := [(0, .aload_n 0, 1, 3, 0, 0, 0, 0, [], .null),
    (1, .getfield 12, 3, 26, 8, 0, 0, 0, [], .null),
    (4, .aload_n 1, 1, 3, 1, 0, 0, 0, [], .null),
    (5, .getfield 12, 3, 26, 8, 0, 0, 0, [], .null),
    (8, .invokevirtual 72, 3, 48, 2, 2, 0, 0, [0], .null),
    (11, .aload_n 0, 1, 3, 0, 0, 0, 0, [], .null),
    (12, .getfield 21, 3, 26, 8, 1, 0, 0, [], .null),
    (15, .aload_n 1, 1, 3, 1, 0, 0, 0, [], .null),
    (16, .getfield 21, 3, 26, 8, 1, 0, 0, [], .null),
    (19, .invokevirtual 76, 3, 48, 13, 2, 0, 0, [1], .null),
    (22, .aload_n 0, 1, 3, 0, 0, 0, 0, [], .null),
    (23, .getfield 28, 3, 26, 8, 2, 0, 0, [], .null),
    (26, .aload_n 1, 1, 3, 1, 0, 0, 0, [], .null),
    (27, .getfield 28, 3, 26, 8, 2, 0, 0, [], .null),
    (30, .invokevirtual 79, 3, 48, 43, 2, 0, 0, [6], .null),
    (33, .aload_n 0, 1, 3, 0, 0, 0, 0, [], .null),
    (34, .getfield 35, 3, 26, 8, 3, 0, 0, [], .null),
    (37, .aload_n 1, 1, 3, 1, 0, 0, 0, [], .null),
    (38, .getfield 35, 3, 26, 8, 3, 0, 0, [], .null),
    (41, .invokevirtual 82, 3, 48, 33, 2, 0, 0, [3], .null),
    (44, .aload_n 0, 1, 3, 0, 0, 0, 0, [], .null),
    (45, .getfield 42, 3, 26, 8, 4, 0, 0, [], .null),
    (48, .aload_n 1, 1, 3, 1, 0, 0, 0, [], .null),
    (49, .getfield 42, 3, 26, 8, 4, 0, 0, [], .null),
    (52, .invokevirtual 85, 3, 48, 28, 2, 0, 0, [2], .null),
    (55, .aload_n 0, 1, 3, 0, 0, 0, 0, [], .null),
    (56, .getfield 49, 3, 26, 8, 5, 0, 0, [], .null),
    (59, .aload_n 1, 1, 3, 1, 0, 0, 0, [], .null),
    (60, .getfield 49, 3, 26, 8, 5, 0, 0, [], .null),
    (63, .invokevirtual 88, 3, 48, 40, 2, 0, 0, [5], .null),
    (66, .aload_n 0, 1, 3, 0, 0, 0, 0, [], .null),
    (67, .aload_n 1, 1, 3, 1, 0, 0, 0, [], .null),
    (68, .getfield 91, 3, 24, 8, 6, 0, 0, [], .null),
    (71, .putfield 91, 3, 27, 8, 6, 0, 0, [], .null),
    (74, .return_, 1, 55, 0, 0, 0, 0, [], .null)]
def kX8_copyFrom : Code9 := [(0, kX8_copyFrom_0)]
theorem rX8_copyFrom_0 (sa : Nat → Nat) (E : Nat → Sem) (MC MS : Nat) (HX : Nat → Nat → Option Nat) (Q : Option Value → Mm → Prop) (X : Nat → Mm → Prop) (L : List Slot) (st : List Value) (M : Mm) (nc ns : Nat) : Run sa E MC MS HX Q X kX8_copyFrom 0 L st M nc ns = bk sa E MC MS HX (Run sa E MC MS HX Q X kX8_copyFrom) Q X kX8_copyFrom_0 L st M nc ns := Run_eq sa E MC MS HX Q X _ _ _ _ _ _ _
def kX8_divide_0 : List Item := [(0, .aload_n 0, 1, 3, 0, 0, 0, 0, [], .null),
    (1, .getfield 12, 3, 26, 8, 0, 0, 0, [], .null),
    (4, .iload_n 1, 1, 1, 1, 0, 0, 0, [], .null),
    (5, .invokevirtual 143, 3, 48, 9, 2, 0, 0, [0], .null),
    (8, .istore_n 3, 1, 4, 3, 0, 0, 0, [], .null),
    (9, .aload_n 0, 1, 3, 0, 0, 0, 0, [], .null),
    (10, .getfield 12, 3, 26, 8, 0, 0, 0, [], .null),
    (13, .iload_n 1, 1, 1, 1, 0, 0, 0, [], .null),
    (14, .invokevirtual 146, 3, 48, 3, 2, 0, 0, [0], .null),
    (17, .istore 4, 2, 4, 4, 0, 0, 0, [], .null),
    (19, .iload_n 3, 1, 1, 3, 0, 0, 0, [], .null),
    (20, .ifCond .le 8, 3, 20, 28, 5, 0, 0, [], .null),
    (23, .iload 4, 2, 1, 4, 0, 0, 0, [], .null),
    (25, .ifCond .ge 18, 3, 20, 43, 3, 0, 0, [], .null),
    (28, .aload_n 0, 1, 3, 0, 0, 0, 0, [], .null),
    (29, .getfield 49, 3, 26, 8, 5, 0, 0, [], .null),
    (32, .dup, 1, 16, 0, 0, 0, 0, [], .null),
    (33, .getfield 130, 3, 25, 5, 2, 0, 0, [], .null),
    (36, .iload_n 2, 1, 1, 2, 0, 0, 0, [], .null),
    (37, .i2l, 1, 12, 0, 0, 0, 0, [], .null),
    (38, .ladd, 1, 10, 0, 0, 0, 0, [], .null),
    (39, .putfield 130, 3, 28, 5, 2, 0, 0, [], .null),
    (42, .return_, 1, 55, 0, 0, 0, 0, [], .null)]
def kX8_divide_28 : List Item := [(28, .aload_n 0, 1, 3, 0, 0, 0, 0, [], .null),
    (29, .getfield 49, 3, 26, 8, 5, 0, 0, [], .null),
    (32, .dup, 1, 16, 0, 0, 0, 0, [], .null),
    (33, .getfield 130, 3, 25, 5, 2, 0, 0, [], .null),
    (36, .iload_n 2, 1, 1, 2, 0, 0, 0, [], .null),
    (37, .i2l, 1, 12, 0, 0, 0, 0, [], .null),
    (38, .ladd, 1, 10, 0, 0, 0, 0, [], .null),
    (39, .putfield 130, 3, 28, 5, 2, 0, 0, [], .null),
    (42, .return_, 1, 55, 0, 0, 0, 0, [], .null)]
def kX8_divide_43 : List Item := [(43, .iload_n 2, 1, 1, 2, 0, 0, 0, [], .null),
    (44, .istore 5, 2, 4, 5, 0, 0, 0, [], .null),
    (46, .iload 4, 2, 1, 4, 0, 0, 0, [], .null),
    (48, .iconst 1, 1, 0, 0, 0, 0, 0, [], .int 1),
    (49, .iadd, 1, 8, 0, 0, 0, 0, [], .null),
    (50, .istore 6, 2, 4, 6, 0, 0, 0, [], .null),
    (52, .nop, 0, 60, 52, 0, 0, 0, [], .null)]
def kX8_divide_52 : List Item := [(52, .iload 6, 2, 1, 6, 0, 0, 0, [], .null),
    (54, .aload_n 0, 1, 3, 0, 0, 0, 0, [], .null),
    (55, .getfield 12, 3, 26, 8, 0, 0, 0, [], .null),
    (58, .getfield 53, 3, 24, 0, 8, 0, 0, [], .null),
    (61, .if_icmp .ge 53, 3, 21, 114, 3, 0, 0, [], .null),
    (64, .aload_n 0, 1, 3, 0, 0, 0, 0, [], .null),
    (65, .getfield 12, 3, 26, 8, 0, 0, 0, [], .null),
    (68, .iload 6, 2, 1, 6, 0, 0, 0, [], .null),
    (70, .iload_n 1, 1, 1, 1, 0, 0, 0, [], .null),
    (71, .invokevirtual 149, 3, 48, 5, 3, 0, 0, [0], .null),
    (74, .ifCond .eq 34, 3, 20, 108, 0, 0, 0, [], .null),
    (77, .iload_n 2, 1, 1, 2, 0, 0, 0, [], .null),
    (78, .aload_n 0, 1, 3, 0, 0, 0, 0, [], .null),
    (79, .getfield 12, 3, 26, 8, 0, 0, 0, [], .null),
    (82, .getfield 153, 3, 26, 0, 4, 0, 0, [], .null),
    (85, .iload 6, 2, 1, 6, 0, 0, 0, [], .null),
    (87, .iaload, 1, 31, 0, 0, 0, 0, [], .null),
    (88, .imul, 1, 8, 0, 2, 0, 0, [], .null),
    (89, .iload_n 3, 1, 1, 3, 0, 0, 0, [], .null),
    (90, .idiv, 1, 9, 0, 0, 0, 0, [], .null),
    (91, .istore 7, 2, 4, 7, 0, 0, 0, [], .null),
    (93, .aload_n 0, 1, 3, 0, 0, 0, 0, [], .null),
    (94, .iload 6, 2, 1, 6, 0, 0, 0, [], .null),
    (96, .iload 7, 2, 1, 7, 0, 0, 0, [], .null),
    (98, .invokevirtual 106, 3, 48, 66, 3, 0, 0, [8], .null),
    (101, .iload 5, 2, 1, 5, 0, 0, 0, [], .null),
    (103, .iload 7, 2, 1, 7, 0, 0, 0, [], .null),
    (105, .isub, 1, 8, 0, 1, 0, 0, [], .null),
    (106, .istore 5, 2, 4, 5, 0, 0, 0, [], .null),
    (108, .iinc 6 1, 3, 7, 6, 0, 0, 0, [], .int 1),
    (111, .goto (-59), 3, 22, 52, 0, 0, 0, [], .null)]
def kX8_divide_108 : List Item := [(108, .iinc 6 1, 3, 7, 6, 0, 0, 0, [], .int 1),
    (111, .goto (-59), 3, 22, 52, 0, 0, 0, [], .null)]
def kX8_divide_114 : List Item := [(114, .aload_n 0, 1, 3, 0, 0, 0, 0, [], .null),
    (115, .iload 4, 2, 1, 4, 0, 0, 0, [], .null),
    (117, .iload 5, 2, 1, 5, 0, 0, 0, [], .null),
    (119, .invokevirtual 106, 3, 48, 66, 3, 0, 0, [8], .null),
    (122, .return_, 1, 55, 0, 0, 0, 0, [], .null)]
def kX8_divide : Code9 := [(0, kX8_divide_0), (28, kX8_divide_28), (43, kX8_divide_43), (52, kX8_divide_52), (108, kX8_divide_108), (114, kX8_divide_114)]
theorem rX8_divide_0 (sa : Nat → Nat) (E : Nat → Sem) (MC MS : Nat) (HX : Nat → Nat → Option Nat) (Q : Option Value → Mm → Prop) (X : Nat → Mm → Prop) (L : List Slot) (st : List Value) (M : Mm) (nc ns : Nat) : Run sa E MC MS HX Q X kX8_divide 0 L st M nc ns = bk sa E MC MS HX (Run sa E MC MS HX Q X kX8_divide) Q X kX8_divide_0 L st M nc ns := Run_eq sa E MC MS HX Q X _ _ _ _ _ _ _
theorem rX8_divide_28 (sa : Nat → Nat) (E : Nat → Sem) (MC MS : Nat) (HX : Nat → Nat → Option Nat) (Q : Option Value → Mm → Prop) (X : Nat → Mm → Prop) (L : List Slot) (st : List Value) (M : Mm) (nc ns : Nat) : Run sa E MC MS HX Q X kX8_divide 28 L st M nc ns = bk sa E MC MS HX (Run sa E MC MS HX Q X kX8_divide) Q X kX8_divide_28 L st M nc ns := Run_eq sa E MC MS HX Q X _ _ _ _ _ _ _
theorem rX8_divide_43 (sa : Nat → Nat) (E : Nat → Sem) (MC MS : Nat) (HX : Nat → Nat → Option Nat) (Q : Option Value → Mm → Prop) (X : Nat → Mm → Prop) (L : List Slot) (st : List Value) (M : Mm) (nc ns : Nat) : Run sa E MC MS HX Q X kX8_divide 43 L st M nc ns = bk sa E MC MS HX (Run sa E MC MS HX Q X kX8_divide) Q X kX8_divide_43 L st M nc ns := Run_eq sa E MC MS HX Q X _ _ _ _ _ _ _
theorem rX8_divide_52 (sa : Nat → Nat) (E : Nat → Sem) (MC MS : Nat) (HX : Nat → Nat → Option Nat) (Q : Option Value → Mm → Prop) (X : Nat → Mm → Prop) (L : List Slot) (st : List Value) (M : Mm) (nc ns : Nat) : Run sa E MC MS HX Q X kX8_divide 52 L st M nc ns = bk sa E MC MS HX (Run sa E MC MS HX Q X kX8_divide) Q X kX8_divide_52 L st M nc ns := Run_eq sa E MC MS HX Q X _ _ _ _ _ _ _
theorem rX8_divide_108 (sa : Nat → Nat) (E : Nat → Sem) (MC MS : Nat) (HX : Nat → Nat → Option Nat) (Q : Option Value → Mm → Prop) (X : Nat → Mm → Prop) (L : List Slot) (st : List Value) (M : Mm) (nc ns : Nat) : Run sa E MC MS HX Q X kX8_divide 108 L st M nc ns = bk sa E MC MS HX (Run sa E MC MS HX Q X kX8_divide) Q X kX8_divide_108 L st M nc ns := Run_eq sa E MC MS HX Q X _ _ _ _ _ _ _
theorem rX8_divide_114 (sa : Nat → Nat) (E : Nat → Sem) (MC MS : Nat) (HX : Nat → Nat → Option Nat) (Q : Option Value → Mm → Prop) (X : Nat → Mm → Prop) (L : List Slot) (st : List Value) (M : Mm) (nc ns : Nat) : Run sa E MC MS HX Q X kX8_divide 114 L st M nc ns = bk sa E MC MS HX (Run sa E MC MS HX Q X kX8_divide) Q X kX8_divide_114 L st M nc ns := Run_eq sa E MC MS HX Q X _ _ _ _ _ _ _
def kX8_enter_0 : List Item := [(0, .iload_n 1, 1, 1, 1, 0, 0, 0, [], .null),
    (1, .aload_n 0, 1, 3, 0, 0, 0, 0, [], .null),
    (2, .getfield 12, 3, 26, 8, 0, 0, 0, [], .null),
    (5, .getfield 53, 3, 24, 0, 8, 0, 0, [], .null),
    (8, .if_icmp .lt 4, 3, 21, 12, 2, 0, 0, [], .null),
    (11, .return_, 1, 55, 0, 0, 0, 0, [], .null)]
def kX8_enter_12 : List Item := [(12, .iload_n 2, 1, 1, 2, 0, 0, 0, [], .null),
    (13, .aload_n 0, 1, 3, 0, 0, 0, 0, [], .null),
    (14, .getfield 12, 3, 26, 8, 0, 0, 0, [], .null),
    (17, .getfield 157, 3, 26, 0, 3, 0, 0, [], .null),
    (20, .iload_n 1, 1, 1, 1, 0, 0, 0, [], .null),
    (21, .iaload, 1, 31, 0, 0, 0, 0, [], .null),
    (22, .invokestatic 160, 3, 49, 0, 0, 0, 0, [], .null),
    (25, .istore_n 3, 1, 4, 3, 0, 0, 0, [], .null),
    (26, .iload_n 3, 1, 1, 3, 0, 0, 0, [], .null),
    (27, .aload_n 0, 1, 3, 0, 0, 0, 0, [], .null),
    (28, .getfield 12, 3, 26, 8, 0, 0, 0, [], .null),
    (31, .getfield 165, 3, 26, 0, 2, 0, 0, [], .null),
    (34, .iload_n 1, 1, 1, 1, 0, 0, 0, [], .null),
    (35, .iaload, 1, 31, 0, 0, 0, 0, [], .null),
    (36, .imul, 1, 8, 0, 2, 0, 0, [], .null),
    (37, .bipush 100, 2, 0, 0, 0, 0, 0, [], .int 100),
    (39, .idiv, 1, 9, 0, 0, 0, 0, [], .null),
    (40, .istore 4, 2, 4, 4, 0, 0, 0, [], .null),
    (42, .aload_n 0, 1, 3, 0, 0, 0, 0, [], .null),
    (43, .getfield 49, 3, 26, 8, 5, 0, 0, [], .null),
    (46, .dup, 1, 16, 0, 0, 0, 0, [], .null),
    (47, .getfield 130, 3, 25, 5, 2, 0, 0, [], .null),
    (50, .iload_n 2, 1, 1, 2, 0, 0, 0, [], .null),
    (51, .iload_n 3, 1, 1, 3, 0, 0, 0, [], .null),
    (52, .isub, 1, 8, 0, 1, 0, 0, [], .null),
    (53, .i2l, 1, 12, 0, 0, 0, 0, [], .null),
    (54, .ladd, 1, 10, 0, 0, 0, 0, [], .null),
    (55, .putfield 130, 3, 28, 5, 2, 0, 0, [], .null),
    (58, .aload_n 0, 1, 3, 0, 0, 0, 0, [], .null),
    (59, .getfield 49, 3, 26, 8, 5, 0, 0, [], .null),
    (62, .dup, 1, 16, 0, 0, 0, 0, [], .null),
    (63, .getfield 168, 3, 25, 5, 3, 0, 0, [], .null),
    (66, .iload 4, 2, 1, 4, 0, 0, 0, [], .null),
    (68, .i2l, 1, 12, 0, 0, 0, 0, [], .null),
    (69, .ladd, 1, 10, 0, 0, 0, 0, [], .null),
    (70, .putfield 168, 3, 28, 5, 3, 0, 0, [], .null),
    (73, .aload_n 0, 1, 3, 0, 0, 0, 0, [], .null),
    (74, .getfield 12, 3, 26, 8, 0, 0, 0, [], .null),
    (77, .iload_n 1, 1, 1, 1, 0, 0, 0, [], .null),
    (78, .aload_n 0, 1, 3, 0, 0, 0, 0, [], .null),
    (79, .getfield 91, 3, 24, 8, 6, 0, 0, [], .null),
    (82, .iload_n 3, 1, 1, 3, 0, 0, 0, [], .null),
    (83, .iload 4, 2, 1, 4, 0, 0, 0, [], .null),
    (85, .isub, 1, 8, 0, 1, 0, 0, [], .null),
    (86, .invokevirtual 171, 3, 48, 10, 4, 0, 0, [0], .null),
    (89, .return_, 1, 55, 0, 0, 0, 0, [], .null)]
def kX8_enter : Code9 := [(0, kX8_enter_0), (12, kX8_enter_12)]
theorem rX8_enter_0 (sa : Nat → Nat) (E : Nat → Sem) (MC MS : Nat) (HX : Nat → Nat → Option Nat) (Q : Option Value → Mm → Prop) (X : Nat → Mm → Prop) (L : List Slot) (st : List Value) (M : Mm) (nc ns : Nat) : Run sa E MC MS HX Q X kX8_enter 0 L st M nc ns = bk sa E MC MS HX (Run sa E MC MS HX Q X kX8_enter) Q X kX8_enter_0 L st M nc ns := Run_eq sa E MC MS HX Q X _ _ _ _ _ _ _
theorem rX8_enter_12 (sa : Nat → Nat) (E : Nat → Sem) (MC MS : Nat) (HX : Nat → Nat → Option Nat) (Q : Option Value → Mm → Prop) (X : Nat → Mm → Prop) (L : List Slot) (st : List Value) (M : Mm) (nc ns : Nat) : Run sa E MC MS HX Q X kX8_enter 12 L st M nc ns = bk sa E MC MS HX (Run sa E MC MS HX Q X kX8_enter) Q X kX8_enter_12 L st M nc ns := Run_eq sa E MC MS HX Q X _ _ _ _ _ _ _
def kX8_forgetSetup_0 : List Item := [(0, .aload_n 0, 1, 3, 0, 0, 0, 0, [], .null),
    (1, .getfield 12, 3, 26, 8, 0, 0, 0, [], .null),
    (4, .iconst 0, 1, 0, 0, 0, 0, 0, [], .int 0),
    (5, .putfield 53, 3, 27, 0, 8, 0, 0, [], .null),
    (8, .aload_n 0, 1, 3, 0, 0, 0, 0, [], .null),
    (9, .getfield 21, 3, 26, 8, 1, 0, 0, [], .null),
    (12, .iconst 0, 1, 0, 0, 0, 0, 0, [], .int 0),
    (13, .putfield 57, 3, 27, 1, 11, 0, 0, [], .null),
    (16, .aload_n 0, 1, 3, 0, 0, 0, 0, [], .null),
    (17, .getfield 28, 3, 26, 8, 2, 0, 0, [], .null),
    (20, .iconst 0, 1, 0, 0, 0, 0, 0, [], .int 0),
    (21, .putfield 58, 3, 27, 6, 2, 0, 0, [], .null),
    (24, .aload_n 0, 1, 3, 0, 0, 0, 0, [], .null),
    (25, .getfield 28, 3, 26, 8, 2, 0, 0, [], .null),
    (28, .iconst 0, 1, 0, 0, 0, 0, 0, [], .int 0),
    (29, .putfield 59, 3, 27, 6, 3, 0, 0, [], .null),
    (32, .aload_n 0, 1, 3, 0, 0, 0, 0, [], .null),
    (33, .getfield 35, 3, 26, 8, 3, 0, 0, [], .null),
    (36, .iconst 0, 1, 0, 0, 0, 0, 0, [], .int 0),
    (37, .putfield 62, 3, 27, 3, 1, 0, 0, [], .null),
    (40, .aload_n 0, 1, 3, 0, 0, 0, 0, [], .null),
    (41, .getfield 42, 3, 26, 8, 4, 0, 0, [], .null),
    (44, .invokevirtual 65, 3, 48, 26, 1, 0, 0, [2], .null),
    (47, .aload_n 0, 1, 3, 0, 0, 0, 0, [], .null),
    (48, .getfield 42, 3, 26, 8, 4, 0, 0, [], .null),
    (51, .bipush 100, 2, 0, 0, 0, 0, 0, [], .int 100),
    (53, .invokevirtual 68, 3, 48, 25, 2, 0, 0, [2], .null),
    (56, .return_, 1, 55, 0, 0, 0, 0, [], .null)]
def kX8_forgetSetup : Code9 := [(0, kX8_forgetSetup_0)]
theorem rX8_forgetSetup_0 (sa : Nat → Nat) (E : Nat → Sem) (MC MS : Nat) (HX : Nat → Nat → Option Nat) (Q : Option Value → Mm → Prop) (X : Nat → Mm → Prop) (L : List Slot) (st : List Value) (M : Mm) (nc ns : Nat) : Run sa E MC MS HX Q X kX8_forgetSetup 0 L st M nc ns = bk sa E MC MS HX (Run sa E MC MS HX Q X kX8_forgetSetup) Q X kX8_forgetSetup_0 L st M nc ns := Run_eq sa E MC MS HX Q X _ _ _ _ _ _ _
def kX8_init_0 : List Item := [(0, .aload_n 0, 1, 3, 0, 0, 0, 0, [], .null),
    (1, .invokespecial 3, 3, 47, 0, 0, 0, 0, [], .null),
    (4, .aload_n 0, 1, 3, 0, 0, 0, 0, [], .null),
    (5, .new 9, 3, 43, 0, 9, 0, 0, [], .null),
    (8, .dup, 1, 16, 0, 0, 0, 0, [], .null),
    (9, .invokespecial 11, 3, 48, 4, 1, 8, 224, [101], .null),
    (12, .putfield 12, 3, 29, 8, 0, 0, 0, [], .null),
    (15, .aload_n 0, 1, 3, 0, 0, 0, 0, [], .null),
    (16, .new 18, 3, 43, 1, 12, 0, 0, [], .null),
    (19, .dup, 1, 16, 0, 0, 0, 0, [], .null),
    (20, .invokespecial 20, 3, 48, 18, 1, 11, 132, [101], .null),
    (23, .putfield 21, 3, 29, 8, 1, 0, 0, [], .null),
    (26, .aload_n 0, 1, 3, 0, 0, 0, 0, [], .null),
    (27, .new 25, 3, 43, 6, 4, 0, 0, [], .null),
    (30, .dup, 1, 16, 0, 0, 0, 0, [], .null),
    (31, .invokespecial 27, 3, 48, 45, 1, 2, 24, [101], .null),
    (34, .putfield 28, 3, 29, 8, 2, 0, 0, [], .null),
    (37, .aload_n 0, 1, 3, 0, 0, 0, 0, [], .null),
    (38, .new 32, 3, 43, 3, 3, 0, 0, [], .null),
    (41, .dup, 1, 16, 0, 0, 0, 0, [], .null),
    (42, .invokespecial 34, 3, 48, 34, 1, 1, 10, [101], .null),
    (45, .putfield 35, 3, 29, 8, 3, 0, 0, [], .null),
    (48, .aload_n 0, 1, 3, 0, 0, 0, 0, [], .null),
    (49, .new 39, 3, 43, 2, 3, 0, 0, [], .null),
    (52, .dup, 1, 16, 0, 0, 0, 0, [], .null),
    (53, .invokespecial 41, 3, 48, 30, 1, 2, 911, [101], .null),
    (56, .putfield 42, 3, 29, 8, 4, 0, 0, [], .null),
    (59, .aload_n 0, 1, 3, 0, 0, 0, 0, [], .null),
    (60, .new 46, 3, 43, 5, 5, 0, 0, [], .null),
    (63, .dup, 1, 16, 0, 0, 0, 0, [], .null),
    (64, .invokespecial 48, 3, 48, 42, 1, 1, 6, [101], .null),
    (67, .putfield 49, 3, 29, 8, 5, 0, 0, [], .null),
    (70, .return_, 1, 55, 0, 0, 0, 0, [], .null)]
def kX8_init : Code9 := [(0, kX8_init_0)]
theorem rX8_init_0 (sa : Nat → Nat) (E : Nat → Sem) (MC MS : Nat) (HX : Nat → Nat → Option Nat) (Q : Option Value → Mm → Prop) (X : Nat → Mm → Prop) (L : List Slot) (st : List Value) (M : Mm) (nc ns : Nat) : Run sa E MC MS HX Q X kX8_init 0 L st M nc ns = bk sa E MC MS HX (Run sa E MC MS HX Q X kX8_init) Q X kX8_init_0 L st M nc ns := Run_eq sa E MC MS HX Q X _ _ _ _ _ _ _
def kX8_passHour_0 : List Item := [(0, .aload_n 0, 1, 3, 0, 0, 0, 0, [], .null),
    (1, .getfield 28, 3, 26, 8, 2, 0, 0, [], .null),
    (4, .aload_n 0, 1, 3, 0, 0, 0, 0, [], .null),
    (5, .getfield 91, 3, 24, 8, 6, 0, 0, [], .null),
    (8, .invokevirtual 94, 3, 48, 46, 2, 0, 0, [6], .null),
    (11, .istore_n 1, 1, 4, 1, 0, 0, 0, [], .null),
    (12, .aload_n 0, 1, 3, 0, 0, 0, 0, [], .null),
    (13, .getfield 42, 3, 26, 8, 4, 0, 0, [], .null),
    (16, .aload_n 0, 1, 3, 0, 0, 0, 0, [], .null),
    (17, .getfield 91, 3, 24, 8, 6, 0, 0, [], .null),
    (20, .iload_n 1, 1, 1, 1, 0, 0, 0, [], .null),
    (21, .invokevirtual 98, 3, 48, 29, 3, 0, 0, [2], .null),
    (24, .istore_n 2, 1, 4, 2, 0, 0, 0, [], .null),
    (25, .aload_n 0, 1, 3, 0, 0, 0, 0, [], .null),
    (26, .getfield 49, 3, 26, 8, 5, 0, 0, [], .null),
    (29, .dup, 1, 16, 0, 0, 0, 0, [], .null),
    (30, .getfield 102, 3, 25, 5, 1, 0, 0, [], .null),
    (33, .iload_n 2, 1, 1, 2, 0, 0, 0, [], .null),
    (34, .i2l, 1, 12, 0, 0, 0, 0, [], .null),
    (35, .ladd, 1, 10, 0, 0, 0, 0, [], .null),
    (36, .putfield 102, 3, 28, 5, 1, 0, 0, [], .null),
    (39, .aload_n 0, 1, 3, 0, 0, 0, 0, [], .null),
    (40, .iconst 0, 1, 0, 0, 0, 0, 0, [], .int 0),
    (41, .iload_n 2, 1, 1, 2, 0, 0, 0, [], .null),
    (42, .invokevirtual 106, 3, 48, 66, 3, 0, 0, [8], .null),
    (45, .aload_n 0, 1, 3, 0, 0, 0, 0, [], .null),
    (46, .getfield 21, 3, 26, 8, 1, 0, 0, [], .null),
    (49, .aload_n 0, 1, 3, 0, 0, 0, 0, [], .null),
    (50, .getfield 12, 3, 26, 8, 0, 0, 0, [], .null),
    (53, .iload_n 1, 1, 1, 1, 0, 0, 0, [], .null),
    (54, .invokevirtual 110, 3, 48, 19, 3, 0, 0, [1], .null),
    (57, .iconst 0, 1, 0, 0, 0, 0, 0, [], .int 0),
    (58, .istore_n 3, 1, 4, 3, 0, 0, 0, [], .null),
    (59, .iconst 0, 1, 0, 0, 0, 0, 0, [], .int 0),
    (60, .istore 4, 2, 4, 4, 0, 0, 0, [], .null),
    (62, .nop, 0, 60, 62, 0, 0, 0, [], .null)]
def kX8_passHour_62 : List Item := [(62, .iload 4, 2, 1, 4, 0, 0, 0, [], .null),
    (64, .aload_n 0, 1, 3, 0, 0, 0, 0, [], .null),
    (65, .getfield 12, 3, 26, 8, 0, 0, 0, [], .null),
    (68, .getfield 53, 3, 24, 0, 8, 0, 0, [], .null),
    (71, .if_icmp .ge 59, 3, 21, 130, 3, 0, 0, [], .null),
    (74, .aload_n 0, 1, 3, 0, 0, 0, 0, [], .null),
    (75, .getfield 12, 3, 26, 8, 0, 0, 0, [], .null),
    (78, .iload 4, 2, 1, 4, 0, 0, 0, [], .null),
    (80, .aload_n 0, 1, 3, 0, 0, 0, 0, [], .null),
    (81, .getfield 91, 3, 24, 8, 6, 0, 0, [], .null),
    (84, .invokevirtual 114, 3, 48, 6, 3, 0, 0, [0], .null),
    (87, .istore 5, 2, 4, 5, 0, 0, 0, [], .null),
    (89, .aload_n 0, 1, 3, 0, 0, 0, 0, [], .null),
    (90, .getfield 21, 3, 26, 8, 1, 0, 0, [], .null),
    (93, .iload 4, 2, 1, 4, 0, 0, 0, [], .null),
    (95, .iload 5, 2, 1, 5, 0, 0, 0, [], .null),
    (97, .iload_n 1, 1, 1, 1, 0, 0, 0, [], .null),
    (98, .invokevirtual 117, 3, 48, 23, 4, 0, 0, [1], .null),
    (101, .istore 6, 2, 4, 6, 0, 0, 0, [], .null),
    (103, .iload_n 3, 1, 1, 3, 0, 0, 0, [], .null),
    (104, .iload 5, 2, 1, 5, 0, 0, 0, [], .null),
    (106, .iload 6, 2, 1, 6, 0, 0, 0, [], .null),
    (108, .isub, 1, 8, 0, 1, 0, 0, [], .null),
    (109, .iadd, 1, 8, 0, 0, 0, 0, [], .null),
    (110, .istore_n 3, 1, 4, 3, 0, 0, 0, [], .null),
    (111, .iload 6, 2, 1, 6, 0, 0, 0, [], .null),
    (113, .ifCond .le 11, 3, 20, 124, 5, 0, 0, [], .null),
    (116, .aload_n 0, 1, 3, 0, 0, 0, 0, [], .null),
    (117, .iload 4, 2, 1, 4, 0, 0, 0, [], .null),
    (119, .iload 6, 2, 1, 6, 0, 0, 0, [], .null),
    (121, .invokevirtual 121, 3, 48, 65, 3, 0, 0, [8], .null),
    (124, .iinc 4 1, 3, 7, 4, 0, 0, 0, [], .int 1),
    (127, .goto (-65), 3, 22, 62, 0, 0, 0, [], .null)]
def kX8_passHour_124 : List Item := [(124, .iinc 4 1, 3, 7, 4, 0, 0, 0, [], .int 1),
    (127, .goto (-65), 3, 22, 62, 0, 0, 0, [], .null)]
def kX8_passHour_130 : List Item := [(130, .aload_n 0, 1, 3, 0, 0, 0, 0, [], .null),
    (131, .getfield 21, 3, 26, 8, 1, 0, 0, [], .null),
    (134, .getfield 57, 3, 24, 1, 11, 0, 0, [], .null),
    (137, .iconst 1, 1, 0, 0, 0, 0, 0, [], .int 1),
    (138, .isub, 1, 8, 0, 1, 0, 0, [], .null),
    (139, .istore 4, 2, 4, 4, 0, 0, 0, [], .null),
    (141, .nop, 0, 60, 141, 0, 0, 0, [], .null)]
def kX8_passHour_141 : List Item := [(141, .iload 4, 2, 1, 4, 0, 0, 0, [], .null),
    (143, .ifCond .lt 53, 3, 20, 196, 2, 0, 0, [], .null),
    (146, .aload_n 0, 1, 3, 0, 0, 0, 0, [], .null),
    (147, .getfield 49, 3, 26, 8, 5, 0, 0, [], .null),
    (150, .dup, 1, 16, 0, 0, 0, 0, [], .null),
    (151, .getfield 124, 3, 25, 5, 4, 0, 0, [], .null),
    (154, .aload_n 0, 1, 3, 0, 0, 0, 0, [], .null),
    (155, .getfield 21, 3, 26, 8, 1, 0, 0, [], .null),
    (158, .iload 4, 2, 1, 4, 0, 0, 0, [], .null),
    (160, .invokevirtual 127, 3, 48, 22, 2, 0, 0, [1], .null),
    (163, .i2l, 1, 12, 0, 0, 0, 0, [], .null),
    (164, .ladd, 1, 10, 0, 0, 0, 0, [], .null),
    (165, .putfield 124, 3, 28, 5, 4, 0, 0, [], .null),
    (168, .aload_n 0, 1, 3, 0, 0, 0, 0, [], .null),
    (169, .getfield 49, 3, 26, 8, 5, 0, 0, [], .null),
    (172, .dup, 1, 16, 0, 0, 0, 0, [], .null),
    (173, .getfield 130, 3, 25, 5, 2, 0, 0, [], .null),
    (176, .aload_n 0, 1, 3, 0, 0, 0, 0, [], .null),
    (177, .getfield 21, 3, 26, 8, 1, 0, 0, [], .null),
    (180, .iload 4, 2, 1, 4, 0, 0, 0, [], .null),
    (182, .invokevirtual 133, 3, 48, 21, 2, 0, 0, [1], .null),
    (185, .i2l, 1, 12, 0, 0, 0, 0, [], .null),
    (186, .ladd, 1, 10, 0, 0, 0, 0, [], .null),
    (187, .putfield 130, 3, 28, 5, 2, 0, 0, [], .null),
    (190, .iinc 4 (-1), 3, 7, 4, 0, 0, 0, [], .int (-1)),
    (193, .goto (-52), 3, 22, 141, 0, 0, 0, [], .null)]
def kX8_passHour_196 : List Item := [(196, .aload_n 0, 1, 3, 0, 0, 0, 0, [], .null),
    (197, .aload_n 0, 1, 3, 0, 0, 0, 0, [], .null),
    (198, .getfield 35, 3, 26, 8, 3, 0, 0, [], .null),
    (201, .invokevirtual 136, 3, 48, 36, 1, 0, 0, [3], .null),
    (204, .invokevirtual 140, 3, 48, 63, 2, 0, 0, [8], .null),
    (207, .aload_n 0, 1, 3, 0, 0, 0, 0, [], .null),
    (208, .dup, 1, 16, 0, 0, 0, 0, [], .null),
    (209, .getfield 91, 3, 24, 8, 6, 0, 0, [], .null),
    (212, .iconst 1, 1, 0, 0, 0, 0, 0, [], .int 1),
    (213, .iadd, 1, 8, 0, 0, 0, 0, [], .null),
    (214, .putfield 91, 3, 27, 8, 6, 0, 0, [], .null),
    (217, .iload_n 3, 1, 1, 3, 0, 0, 0, [], .null),
    (218, .ireturn, 1, 56, 0, 0, 0, 0, [], .null)]
def kX8_passHour : Code9 := [(0, kX8_passHour_0), (62, kX8_passHour_62), (124, kX8_passHour_124), (130, kX8_passHour_130), (141, kX8_passHour_141), (196, kX8_passHour_196)]
theorem rX8_passHour_0 (sa : Nat → Nat) (E : Nat → Sem) (MC MS : Nat) (HX : Nat → Nat → Option Nat) (Q : Option Value → Mm → Prop) (X : Nat → Mm → Prop) (L : List Slot) (st : List Value) (M : Mm) (nc ns : Nat) : Run sa E MC MS HX Q X kX8_passHour 0 L st M nc ns = bk sa E MC MS HX (Run sa E MC MS HX Q X kX8_passHour) Q X kX8_passHour_0 L st M nc ns := Run_eq sa E MC MS HX Q X _ _ _ _ _ _ _
theorem rX8_passHour_62 (sa : Nat → Nat) (E : Nat → Sem) (MC MS : Nat) (HX : Nat → Nat → Option Nat) (Q : Option Value → Mm → Prop) (X : Nat → Mm → Prop) (L : List Slot) (st : List Value) (M : Mm) (nc ns : Nat) : Run sa E MC MS HX Q X kX8_passHour 62 L st M nc ns = bk sa E MC MS HX (Run sa E MC MS HX Q X kX8_passHour) Q X kX8_passHour_62 L st M nc ns := Run_eq sa E MC MS HX Q X _ _ _ _ _ _ _
theorem rX8_passHour_124 (sa : Nat → Nat) (E : Nat → Sem) (MC MS : Nat) (HX : Nat → Nat → Option Nat) (Q : Option Value → Mm → Prop) (X : Nat → Mm → Prop) (L : List Slot) (st : List Value) (M : Mm) (nc ns : Nat) : Run sa E MC MS HX Q X kX8_passHour 124 L st M nc ns = bk sa E MC MS HX (Run sa E MC MS HX Q X kX8_passHour) Q X kX8_passHour_124 L st M nc ns := Run_eq sa E MC MS HX Q X _ _ _ _ _ _ _
theorem rX8_passHour_130 (sa : Nat → Nat) (E : Nat → Sem) (MC MS : Nat) (HX : Nat → Nat → Option Nat) (Q : Option Value → Mm → Prop) (X : Nat → Mm → Prop) (L : List Slot) (st : List Value) (M : Mm) (nc ns : Nat) : Run sa E MC MS HX Q X kX8_passHour 130 L st M nc ns = bk sa E MC MS HX (Run sa E MC MS HX Q X kX8_passHour) Q X kX8_passHour_130 L st M nc ns := Run_eq sa E MC MS HX Q X _ _ _ _ _ _ _
theorem rX8_passHour_141 (sa : Nat → Nat) (E : Nat → Sem) (MC MS : Nat) (HX : Nat → Nat → Option Nat) (Q : Option Value → Mm → Prop) (X : Nat → Mm → Prop) (L : List Slot) (st : List Value) (M : Mm) (nc ns : Nat) : Run sa E MC MS HX Q X kX8_passHour 141 L st M nc ns = bk sa E MC MS HX (Run sa E MC MS HX Q X kX8_passHour) Q X kX8_passHour_141 L st M nc ns := Run_eq sa E MC MS HX Q X _ _ _ _ _ _ _
theorem rX8_passHour_196 (sa : Nat → Nat) (E : Nat → Sem) (MC MS : Nat) (HX : Nat → Nat → Option Nat) (Q : Option Value → Mm → Prop) (X : Nat → Mm → Prop) (L : List Slot) (st : List Value) (M : Mm) (nc ns : Nat) : Run sa E MC MS HX Q X kX8_passHour 196 L st M nc ns = bk sa E MC MS HX (Run sa E MC MS HX Q X kX8_passHour) Q X kX8_passHour_196 L st M nc ns := Run_eq sa E MC MS HX Q X _ _ _ _ _ _ _
def kX9_addWord_0 : List Item := [(0, .bipush 24, 2, 0, 0, 0, 0, 0, [], .int 24),
    (2, .istore_n 2, 1, 4, 2, 0, 0, 0, [], .null),
    (3, .nop, 0, 60, 3, 0, 0, 0, [], .null)]
def kX9_addWord_3 : List Item := [(3, .iload_n 2, 1, 1, 2, 0, 0, 0, [], .null),
    (4, .ifCond .lt 44, 3, 20, 48, 2, 0, 0, [], .null),
    (7, .aload_n 0, 1, 3, 0, 0, 0, 0, [], .null),
    (8, .getfield 15, 3, 24, 9, 1, 0, 0, [], .null),
    (11, .aload_n 0, 1, 3, 0, 0, 0, 0, [], .null),
    (12, .getfield 9, 3, 26, 9, 0, 0, 0, [], .null),
    (15, .arraylength, 1, 42, 0, 0, 0, 0, [], .null),
    (16, .if_icmp .ge 26, 3, 21, 42, 3, 0, 0, [], .null),
    (19, .aload_n 0, 1, 3, 0, 0, 0, 0, [], .null),
    (20, .getfield 9, 3, 26, 9, 0, 0, 0, [], .null),
    (23, .aload_n 0, 1, 3, 0, 0, 0, 0, [], .null),
    (24, .getfield 15, 3, 24, 9, 1, 0, 0, [], .null),
    (27, .iload_n 1, 1, 1, 1, 0, 0, 0, [], .null),
    (28, .iload_n 2, 1, 1, 2, 0, 0, 0, [], .null),
    (29, .iushr, 1, 8, 0, 5, 0, 0, [], .null),
    (30, .i2b, 1, 14, 0, 0, 0, 0, [], .null),
    (31, .bastore, 1, 35, 2, 0, 0, 0, [], .null),
    (32, .aload_n 0, 1, 3, 0, 0, 0, 0, [], .null),
    (33, .dup, 1, 16, 0, 0, 0, 0, [], .null),
    (34, .getfield 15, 3, 24, 9, 1, 0, 0, [], .null),
    (37, .iconst 1, 1, 0, 0, 0, 0, 0, [], .int 1),
    (38, .iadd, 1, 8, 0, 0, 0, 0, [], .null),
    (39, .putfield 15, 3, 27, 9, 1, 0, 0, [], .null),
    (42, .iinc 2 (-8), 3, 7, 2, 0, 0, 0, [], .int (-8)),
    (45, .goto (-42), 3, 22, 3, 0, 0, 0, [], .null)]
def kX9_addWord_42 : List Item := [(42, .iinc 2 (-8), 3, 7, 2, 0, 0, 0, [], .int (-8)),
    (45, .goto (-42), 3, 22, 3, 0, 0, 0, [], .null)]
def kX9_addWord_48 : List Item := [(48, .return_, 1, 55, 0, 0, 0, 0, [], .null)]
def kX9_addWord : Code9 := [(0, kX9_addWord_0), (3, kX9_addWord_3), (42, kX9_addWord_42), (48, kX9_addWord_48)]
theorem rX9_addWord_0 (sa : Nat → Nat) (E : Nat → Sem) (MC MS : Nat) (HX : Nat → Nat → Option Nat) (Q : Option Value → Mm → Prop) (X : Nat → Mm → Prop) (L : List Slot) (st : List Value) (M : Mm) (nc ns : Nat) : Run sa E MC MS HX Q X kX9_addWord 0 L st M nc ns = bk sa E MC MS HX (Run sa E MC MS HX Q X kX9_addWord) Q X kX9_addWord_0 L st M nc ns := Run_eq sa E MC MS HX Q X _ _ _ _ _ _ _
theorem rX9_addWord_3 (sa : Nat → Nat) (E : Nat → Sem) (MC MS : Nat) (HX : Nat → Nat → Option Nat) (Q : Option Value → Mm → Prop) (X : Nat → Mm → Prop) (L : List Slot) (st : List Value) (M : Mm) (nc ns : Nat) : Run sa E MC MS HX Q X kX9_addWord 3 L st M nc ns = bk sa E MC MS HX (Run sa E MC MS HX Q X kX9_addWord) Q X kX9_addWord_3 L st M nc ns := Run_eq sa E MC MS HX Q X _ _ _ _ _ _ _
theorem rX9_addWord_42 (sa : Nat → Nat) (E : Nat → Sem) (MC MS : Nat) (HX : Nat → Nat → Option Nat) (Q : Option Value → Mm → Prop) (X : Nat → Mm → Prop) (L : List Slot) (st : List Value) (M : Mm) (nc ns : Nat) : Run sa E MC MS HX Q X kX9_addWord 42 L st M nc ns = bk sa E MC MS HX (Run sa E MC MS HX Q X kX9_addWord) Q X kX9_addWord_42 L st M nc ns := Run_eq sa E MC MS HX Q X _ _ _ _ _ _ _
theorem rX9_addWord_48 (sa : Nat → Nat) (E : Nat → Sem) (MC MS : Nat) (HX : Nat → Nat → Option Nat) (Q : Option Value → Mm → Prop) (X : Nat → Mm → Prop) (L : List Slot) (st : List Value) (M : Mm) (nc ns : Nat) : Run sa E MC MS HX Q X kX9_addWord 48 L st M nc ns = bk sa E MC MS HX (Run sa E MC MS HX Q X kX9_addWord) Q X kX9_addWord_48 L st M nc ns := Run_eq sa E MC MS HX Q X _ _ _ _ _ _ _
def kX9_begin_0 : List Item := [(0, .aload_n 0, 1, 3, 0, 0, 0, 0, [], .null),
    (1, .iload_n 1, 1, 1, 1, 0, 0, 0, [], .null),
    (2, .aload_n 0, 1, 3, 0, 0, 0, 0, [], .null),
    (3, .getfield 15, 3, 24, 9, 1, 0, 0, [], .null),
    (6, .invokestatic 19, 3, 49, 0, 0, 0, 0, [], .null),
    (9, .putfield 25, 3, 27, 9, 5, 0, 0, [], .null),
    (12, .aload_n 0, 1, 3, 0, 0, 0, 0, [], .null),
    (13, .iconst 0, 1, 0, 0, 0, 0, 0, [], .int 0),
    (14, .putfield 28, 3, 27, 9, 6, 0, 0, [], .null),
    (17, .aload_n 0, 1, 3, 0, 0, 0, 0, [], .null),
    (18, .invokevirtual 31, 3, 48, 74, 1, 0, 0, [9], .null),
    (21, .return_, 1, 55, 0, 0, 0, 0, [], .null)]
def kX9_begin : Code9 := [(0, kX9_begin_0)]
theorem rX9_begin_0 (sa : Nat → Nat) (E : Nat → Sem) (MC MS : Nat) (HX : Nat → Nat → Option Nat) (Q : Option Value → Mm → Prop) (X : Nat → Mm → Prop) (L : List Slot) (st : List Value) (M : Mm) (nc ns : Nat) : Run sa E MC MS HX Q X kX9_begin 0 L st M nc ns = bk sa E MC MS HX (Run sa E MC MS HX Q X kX9_begin) Q X kX9_begin_0 L st M nc ns := Run_eq sa E MC MS HX Q X _ _ _ _ _ _ _
def kX9_init_0 : List Item := [(0, .aload_n 0, 1, 3, 0, 0, 0, 0, [], .null),
    (1, .invokespecial 3, 3, 47, 0, 0, 0, 0, [], .null),
    (4, .aload_n 0, 1, 3, 0, 0, 0, 0, [], .null),
    (5, .sipush 900, 3, 0, 0, 0, 0, 0, [], .int 900),
    (8, .newarray .byte, 2, 44, 2, 0, 0, 0, [], .null),
    (10, .putfield 9, 3, 29, 9, 0, 0, 0, [], .null),
    (13, .return_, 1, 55, 0, 0, 0, 0, [], .null)]
def kX9_init : Code9 := [(0, kX9_init_0)]
theorem rX9_init_0 (sa : Nat → Nat) (E : Nat → Sem) (MC MS : Nat) (HX : Nat → Nat → Option Nat) (Q : Option Value → Mm → Prop) (X : Nat → Mm → Prop) (L : List Slot) (st : List Value) (M : Mm) (nc ns : Nat) : Run sa E MC MS HX Q X kX9_init 0 L st M nc ns = bk sa E MC MS HX (Run sa E MC MS HX Q X kX9_init) Q X kX9_init_0 L st M nc ns := Run_eq sa E MC MS HX Q X _ _ _ _ _ _ _
def kX9_isWord_0 : List Item := [(0, .aload_n 0, 1, 3, 0, 0, 0, 0, [], .null),
    (1, .getfield 37, 3, 24, 9, 2, 0, 0, [], .null),
    (4, .bipush (-3), 2, 0, 0, 0, 0, 0, [], .int (-3)),
    (6, .if_icmp .ne 19, 3, 21, 25, 1, 0, 0, [], .null),
    (9, .aload_n 0, 1, 3, 0, 0, 0, 0, [], .null),
    (10, .getfield 28, 3, 24, 9, 6, 0, 0, [], .null),
    (13, .aload_n 0, 1, 3, 0, 0, 0, 0, [], .null),
    (14, .getfield 34, 3, 24, 9, 3, 0, 0, [], .null),
    (17, .isub, 1, 8, 0, 1, 0, 0, [], .null),
    (18, .aload_n 1, 1, 3, 1, 0, 0, 0, [], .null),
    (19, .invokevirtual 44, 3, 48, 900, 1, 0, 0, [100], .null),
    (22, .if_icmp .eq 5, 3, 21, 27, 0, 0, 0, [], .null),
    (25, .iconst 0, 1, 0, 0, 0, 0, 0, [], .int 0),
    (26, .ireturn, 1, 58, 0, 0, 0, 0, [], .null)]
def kX9_isWord_25 : List Item := [(25, .iconst 0, 1, 0, 0, 0, 0, 0, [], .int 0),
    (26, .ireturn, 1, 58, 0, 0, 0, 0, [], .null)]
def kX9_isWord_27 : List Item := [(27, .iconst 0, 1, 0, 0, 0, 0, 0, [], .int 0),
    (28, .istore_n 2, 1, 4, 2, 0, 0, 0, [], .null),
    (29, .nop, 0, 60, 29, 0, 0, 0, [], .null)]
def kX9_isWord_29 : List Item := [(29, .iload_n 2, 1, 1, 2, 0, 0, 0, [], .null),
    (30, .aload_n 1, 1, 3, 1, 0, 0, 0, [], .null),
    (31, .invokevirtual 44, 3, 48, 900, 1, 0, 0, [100], .null),
    (34, .if_icmp .ge 30, 3, 21, 64, 3, 0, 0, [], .null),
    (37, .aload_n 0, 1, 3, 0, 0, 0, 0, [], .null),
    (38, .getfield 9, 3, 26, 9, 0, 0, 0, [], .null),
    (41, .aload_n 0, 1, 3, 0, 0, 0, 0, [], .null),
    (42, .getfield 34, 3, 24, 9, 3, 0, 0, [], .null),
    (45, .iload_n 2, 1, 1, 2, 0, 0, 0, [], .null),
    (46, .iadd, 1, 8, 0, 0, 0, 0, [], .null),
    (47, .baload, 1, 31, 2, 0, 0, 0, [], .null),
    (48, .aload_n 1, 1, 3, 1, 0, 0, 0, [], .null),
    (49, .iload_n 2, 1, 1, 2, 0, 0, 0, [], .null),
    (50, .invokevirtual 49, 3, 48, 901, 2, 0, 0, [100], .null),
    (53, .if_icmp .eq 5, 3, 21, 58, 0, 0, 0, [], .null),
    (56, .iconst 0, 1, 0, 0, 0, 0, 0, [], .int 0),
    (57, .ireturn, 1, 58, 0, 0, 0, 0, [], .null)]
def kX9_isWord_58 : List Item := [(58, .iinc 2 1, 3, 7, 2, 0, 0, 0, [], .int 1),
    (61, .goto (-32), 3, 22, 29, 0, 0, 0, [], .null)]
def kX9_isWord_64 : List Item := [(64, .iconst 1, 1, 0, 0, 0, 0, 0, [], .int 1),
    (65, .ireturn, 1, 58, 0, 0, 0, 0, [], .null)]
def kX9_isWord : Code9 := [(0, kX9_isWord_0), (25, kX9_isWord_25), (27, kX9_isWord_27), (29, kX9_isWord_29), (58, kX9_isWord_58), (64, kX9_isWord_64)]
theorem rX9_isWord_0 (sa : Nat → Nat) (E : Nat → Sem) (MC MS : Nat) (HX : Nat → Nat → Option Nat) (Q : Option Value → Mm → Prop) (X : Nat → Mm → Prop) (L : List Slot) (st : List Value) (M : Mm) (nc ns : Nat) : Run sa E MC MS HX Q X kX9_isWord 0 L st M nc ns = bk sa E MC MS HX (Run sa E MC MS HX Q X kX9_isWord) Q X kX9_isWord_0 L st M nc ns := Run_eq sa E MC MS HX Q X _ _ _ _ _ _ _
theorem rX9_isWord_25 (sa : Nat → Nat) (E : Nat → Sem) (MC MS : Nat) (HX : Nat → Nat → Option Nat) (Q : Option Value → Mm → Prop) (X : Nat → Mm → Prop) (L : List Slot) (st : List Value) (M : Mm) (nc ns : Nat) : Run sa E MC MS HX Q X kX9_isWord 25 L st M nc ns = bk sa E MC MS HX (Run sa E MC MS HX Q X kX9_isWord) Q X kX9_isWord_25 L st M nc ns := Run_eq sa E MC MS HX Q X _ _ _ _ _ _ _
theorem rX9_isWord_27 (sa : Nat → Nat) (E : Nat → Sem) (MC MS : Nat) (HX : Nat → Nat → Option Nat) (Q : Option Value → Mm → Prop) (X : Nat → Mm → Prop) (L : List Slot) (st : List Value) (M : Mm) (nc ns : Nat) : Run sa E MC MS HX Q X kX9_isWord 27 L st M nc ns = bk sa E MC MS HX (Run sa E MC MS HX Q X kX9_isWord) Q X kX9_isWord_27 L st M nc ns := Run_eq sa E MC MS HX Q X _ _ _ _ _ _ _
theorem rX9_isWord_29 (sa : Nat → Nat) (E : Nat → Sem) (MC MS : Nat) (HX : Nat → Nat → Option Nat) (Q : Option Value → Mm → Prop) (X : Nat → Mm → Prop) (L : List Slot) (st : List Value) (M : Mm) (nc ns : Nat) : Run sa E MC MS HX Q X kX9_isWord 29 L st M nc ns = bk sa E MC MS HX (Run sa E MC MS HX Q X kX9_isWord) Q X kX9_isWord_29 L st M nc ns := Run_eq sa E MC MS HX Q X _ _ _ _ _ _ _
theorem rX9_isWord_58 (sa : Nat → Nat) (E : Nat → Sem) (MC MS : Nat) (HX : Nat → Nat → Option Nat) (Q : Option Value → Mm → Prop) (X : Nat → Mm → Prop) (L : List Slot) (st : List Value) (M : Mm) (nc ns : Nat) : Run sa E MC MS HX Q X kX9_isWord 58 L st M nc ns = bk sa E MC MS HX (Run sa E MC MS HX Q X kX9_isWord) Q X kX9_isWord_58 L st M nc ns := Run_eq sa E MC MS HX Q X _ _ _ _ _ _ _
theorem rX9_isWord_64 (sa : Nat → Nat) (E : Nat → Sem) (MC MS : Nat) (HX : Nat → Nat → Option Nat) (Q : Option Value → Mm → Prop) (X : Nat → Mm → Prop) (L : List Slot) (st : List Value) (M : Mm) (nc ns : Nat) : Run sa E MC MS HX Q X kX9_isWord 64 L st M nc ns = bk sa E MC MS HX (Run sa E MC MS HX Q X kX9_isWord) Q X kX9_isWord_64 L st M nc ns := Run_eq sa E MC MS HX Q X _ _ _ _ _ _ _
def kX9_next_0 : List Item := [(0, .aload_n 0, 1, 3, 0, 0, 0, 0, [], .null),
    (1, .getfield 28, 3, 24, 9, 6, 0, 0, [], .null),
    (4, .aload_n 0, 1, 3, 0, 0, 0, 0, [], .null),
    (5, .getfield 25, 3, 24, 9, 5, 0, 0, [], .null),
    (8, .if_icmp .ge 30, 3, 21, 38, 3, 0, 0, [], .null),
    (11, .aload_n 0, 1, 3, 0, 0, 0, 0, [], .null),
    (12, .getfield 9, 3, 26, 9, 0, 0, 0, [], .null),
    (15, .aload_n 0, 1, 3, 0, 0, 0, 0, [], .null),
    (16, .getfield 28, 3, 24, 9, 6, 0, 0, [], .null),
    (19, .baload, 1, 31, 2, 0, 0, 0, [], .null),
    (20, .bipush 32, 2, 0, 0, 0, 0, 0, [], .int 32),
    (22, .if_icmp .ne 16, 3, 21, 38, 1, 0, 0, [], .null),
    (25, .aload_n 0, 1, 3, 0, 0, 0, 0, [], .null),
    (26, .dup, 1, 16, 0, 0, 0, 0, [], .null),
    (27, .getfield 28, 3, 24, 9, 6, 0, 0, [], .null),
    (30, .iconst 1, 1, 0, 0, 0, 0, 0, [], .int 1),
    (31, .iadd, 1, 8, 0, 0, 0, 0, [], .null),
    (32, .putfield 28, 3, 27, 9, 6, 0, 0, [], .null),
    (35, .goto (-35), 3, 22, 0, 0, 0, 0, [], .null)]
def kX9_next_38 : List Item := [(38, .aload_n 0, 1, 3, 0, 0, 0, 0, [], .null),
    (39, .aload_n 0, 1, 3, 0, 0, 0, 0, [], .null),
    (40, .getfield 28, 3, 24, 9, 6, 0, 0, [], .null),
    (43, .putfield 34, 3, 27, 9, 3, 0, 0, [], .null),
    (46, .aload_n 0, 1, 3, 0, 0, 0, 0, [], .null),
    (47, .getfield 28, 3, 24, 9, 6, 0, 0, [], .null),
    (50, .aload_n 0, 1, 3, 0, 0, 0, 0, [], .null),
    (51, .getfield 25, 3, 24, 9, 5, 0, 0, [], .null),
    (54, .if_icmp .lt 11, 3, 21, 65, 2, 0, 0, [], .null),
    (57, .aload_n 0, 1, 3, 0, 0, 0, 0, [], .null),
    (58, .iconst (-1), 1, 0, 0, 0, 0, 0, [], .int (-1)),
    (59, .putfield 37, 3, 27, 9, 2, 0, 0, [], .null),
    (62, .goto 236, 3, 22, 298, 0, 0, 0, [], .null)]
def kX9_next_65 : List Item := [(65, .aload_n 0, 1, 3, 0, 0, 0, 0, [], .null),
    (66, .getfield 9, 3, 26, 9, 0, 0, 0, [], .null),
    (69, .aload_n 0, 1, 3, 0, 0, 0, 0, [], .null),
    (70, .getfield 28, 3, 24, 9, 6, 0, 0, [], .null),
    (73, .baload, 1, 31, 2, 0, 0, 0, [], .null),
    (74, .bipush 48, 2, 0, 0, 0, 0, 0, [], .int 48),
    (76, .if_icmp .lt 109, 3, 21, 185, 2, 0, 0, [], .null),
    (79, .aload_n 0, 1, 3, 0, 0, 0, 0, [], .null),
    (80, .getfield 9, 3, 26, 9, 0, 0, 0, [], .null),
    (83, .aload_n 0, 1, 3, 0, 0, 0, 0, [], .null),
    (84, .getfield 28, 3, 24, 9, 6, 0, 0, [], .null),
    (87, .baload, 1, 31, 2, 0, 0, 0, [], .null),
    (88, .bipush 57, 2, 0, 0, 0, 0, 0, [], .int 57),
    (90, .if_icmp .gt 95, 3, 21, 185, 4, 0, 0, [], .null),
    (93, .aload_n 0, 1, 3, 0, 0, 0, 0, [], .null),
    (94, .bipush (-2), 2, 0, 0, 0, 0, 0, [], .int (-2)),
    (96, .putfield 37, 3, 27, 9, 2, 0, 0, [], .null),
    (99, .aload_n 0, 1, 3, 0, 0, 0, 0, [], .null),
    (100, .iconst 0, 1, 0, 0, 0, 0, 0, [], .int 0),
    (101, .putfield 40, 3, 27, 9, 4, 0, 0, [], .null),
    (104, .nop, 0, 60, 104, 0, 0, 0, [], .null)]
def kX9_next_104 : List Item := [(104, .aload_n 0, 1, 3, 0, 0, 0, 0, [], .null),
    (105, .getfield 28, 3, 24, 9, 6, 0, 0, [], .null),
    (108, .aload_n 0, 1, 3, 0, 0, 0, 0, [], .null),
    (109, .getfield 25, 3, 24, 9, 5, 0, 0, [], .null),
    (112, .if_icmp .ge 186, 3, 21, 298, 3, 0, 0, [], .null),
    (115, .aload_n 0, 1, 3, 0, 0, 0, 0, [], .null),
    (116, .getfield 9, 3, 26, 9, 0, 0, 0, [], .null),
    (119, .aload_n 0, 1, 3, 0, 0, 0, 0, [], .null),
    (120, .getfield 28, 3, 24, 9, 6, 0, 0, [], .null),
    (123, .baload, 1, 31, 2, 0, 0, 0, [], .null),
    (124, .bipush 48, 2, 0, 0, 0, 0, 0, [], .int 48),
    (126, .if_icmp .lt 172, 3, 21, 298, 2, 0, 0, [], .null),
    (129, .aload_n 0, 1, 3, 0, 0, 0, 0, [], .null),
    (130, .getfield 9, 3, 26, 9, 0, 0, 0, [], .null),
    (133, .aload_n 0, 1, 3, 0, 0, 0, 0, [], .null),
    (134, .getfield 28, 3, 24, 9, 6, 0, 0, [], .null),
    (137, .baload, 1, 31, 2, 0, 0, 0, [], .null),
    (138, .bipush 57, 2, 0, 0, 0, 0, 0, [], .int 57),
    (140, .if_icmp .gt 158, 3, 21, 298, 4, 0, 0, [], .null),
    (143, .aload_n 0, 1, 3, 0, 0, 0, 0, [], .null),
    (144, .ldc 43, 2, 0, 0, 0, 0, 0, [], .int 1000000),
    (146, .aload_n 0, 1, 3, 0, 0, 0, 0, [], .null),
    (147, .getfield 40, 3, 24, 9, 4, 0, 0, [], .null),
    (150, .bipush 10, 2, 0, 0, 0, 0, 0, [], .int 10),
    (152, .imul, 1, 8, 0, 2, 0, 0, [], .null),
    (153, .aload_n 0, 1, 3, 0, 0, 0, 0, [], .null),
    (154, .getfield 9, 3, 26, 9, 0, 0, 0, [], .null),
    (157, .aload_n 0, 1, 3, 0, 0, 0, 0, [], .null),
    (158, .getfield 28, 3, 24, 9, 6, 0, 0, [], .null),
    (161, .baload, 1, 31, 2, 0, 0, 0, [], .null),
    (162, .iadd, 1, 8, 0, 0, 0, 0, [], .null),
    (163, .bipush 48, 2, 0, 0, 0, 0, 0, [], .int 48),
    (165, .isub, 1, 8, 0, 1, 0, 0, [], .null),
    (166, .invokestatic 19, 3, 49, 0, 0, 0, 0, [], .null),
    (169, .putfield 40, 3, 27, 9, 4, 0, 0, [], .null),
    (172, .aload_n 0, 1, 3, 0, 0, 0, 0, [], .null),
    (173, .dup, 1, 16, 0, 0, 0, 0, [], .null),
    (174, .getfield 28, 3, 24, 9, 6, 0, 0, [], .null),
    (177, .iconst 1, 1, 0, 0, 0, 0, 0, [], .int 1),
    (178, .iadd, 1, 8, 0, 0, 0, 0, [], .null),
    (179, .putfield 28, 3, 27, 9, 6, 0, 0, [], .null),
    (182, .goto (-78), 3, 22, 104, 0, 0, 0, [], .null)]
def kX9_next_185 : List Item := [(185, .aload_n 0, 1, 3, 0, 0, 0, 0, [], .null),
    (186, .getfield 9, 3, 26, 9, 0, 0, 0, [], .null),
    (189, .aload_n 0, 1, 3, 0, 0, 0, 0, [], .null),
    (190, .getfield 28, 3, 24, 9, 6, 0, 0, [], .null),
    (193, .baload, 1, 31, 2, 0, 0, 0, [], .null),
    (194, .bipush 97, 2, 0, 0, 0, 0, 0, [], .int 97),
    (196, .if_icmp .lt 75, 3, 21, 271, 2, 0, 0, [], .null),
    (199, .aload_n 0, 1, 3, 0, 0, 0, 0, [], .null),
    (200, .getfield 9, 3, 26, 9, 0, 0, 0, [], .null),
    (203, .aload_n 0, 1, 3, 0, 0, 0, 0, [], .null),
    (204, .getfield 28, 3, 24, 9, 6, 0, 0, [], .null),
    (207, .baload, 1, 31, 2, 0, 0, 0, [], .null),
    (208, .bipush 122, 2, 0, 0, 0, 0, 0, [], .int 122),
    (210, .if_icmp .gt 61, 3, 21, 271, 4, 0, 0, [], .null),
    (213, .aload_n 0, 1, 3, 0, 0, 0, 0, [], .null),
    (214, .bipush (-3), 2, 0, 0, 0, 0, 0, [], .int (-3)),
    (216, .putfield 37, 3, 27, 9, 2, 0, 0, [], .null),
    (219, .nop, 0, 60, 219, 0, 0, 0, [], .null)]
def kX9_next_219 : List Item := [(219, .aload_n 0, 1, 3, 0, 0, 0, 0, [], .null),
    (220, .getfield 28, 3, 24, 9, 6, 0, 0, [], .null),
    (223, .aload_n 0, 1, 3, 0, 0, 0, 0, [], .null),
    (224, .getfield 25, 3, 24, 9, 5, 0, 0, [], .null),
    (227, .if_icmp .ge 71, 3, 21, 298, 3, 0, 0, [], .null),
    (230, .aload_n 0, 1, 3, 0, 0, 0, 0, [], .null),
    (231, .getfield 9, 3, 26, 9, 0, 0, 0, [], .null),
    (234, .aload_n 0, 1, 3, 0, 0, 0, 0, [], .null),
    (235, .getfield 28, 3, 24, 9, 6, 0, 0, [], .null),
    (238, .baload, 1, 31, 2, 0, 0, 0, [], .null),
    (239, .bipush 97, 2, 0, 0, 0, 0, 0, [], .int 97),
    (241, .if_icmp .lt 57, 3, 21, 298, 2, 0, 0, [], .null),
    (244, .aload_n 0, 1, 3, 0, 0, 0, 0, [], .null),
    (245, .getfield 9, 3, 26, 9, 0, 0, 0, [], .null),
    (248, .aload_n 0, 1, 3, 0, 0, 0, 0, [], .null),
    (249, .getfield 28, 3, 24, 9, 6, 0, 0, [], .null),
    (252, .baload, 1, 31, 2, 0, 0, 0, [], .null),
    (253, .bipush 122, 2, 0, 0, 0, 0, 0, [], .int 122),
    (255, .if_icmp .gt 43, 3, 21, 298, 4, 0, 0, [], .null),
    (258, .aload_n 0, 1, 3, 0, 0, 0, 0, [], .null),
    (259, .dup, 1, 16, 0, 0, 0, 0, [], .null),
    (260, .getfield 28, 3, 24, 9, 6, 0, 0, [], .null),
    (263, .iconst 1, 1, 0, 0, 0, 0, 0, [], .int 1),
    (264, .iadd, 1, 8, 0, 0, 0, 0, [], .null),
    (265, .putfield 28, 3, 27, 9, 6, 0, 0, [], .null),
    (268, .goto (-49), 3, 22, 219, 0, 0, 0, [], .null)]
def kX9_next_271 : List Item := [(271, .aload_n 0, 1, 3, 0, 0, 0, 0, [], .null),
    (272, .aload_n 0, 1, 3, 0, 0, 0, 0, [], .null),
    (273, .getfield 9, 3, 26, 9, 0, 0, 0, [], .null),
    (276, .aload_n 0, 1, 3, 0, 0, 0, 0, [], .null),
    (277, .getfield 28, 3, 24, 9, 6, 0, 0, [], .null),
    (280, .baload, 1, 31, 2, 0, 0, 0, [], .null),
    (281, .sipush 255, 3, 0, 0, 0, 0, 0, [], .int 255),
    (284, .iand, 1, 8, 0, 3, 0, 0, [], .null),
    (285, .putfield 37, 3, 27, 9, 2, 0, 0, [], .null),
    (288, .aload_n 0, 1, 3, 0, 0, 0, 0, [], .null),
    (289, .dup, 1, 16, 0, 0, 0, 0, [], .null),
    (290, .getfield 28, 3, 24, 9, 6, 0, 0, [], .null),
    (293, .iconst 1, 1, 0, 0, 0, 0, 0, [], .int 1),
    (294, .iadd, 1, 8, 0, 0, 0, 0, [], .null),
    (295, .putfield 28, 3, 27, 9, 6, 0, 0, [], .null),
    (298, .return_, 1, 55, 0, 0, 0, 0, [], .null)]
def kX9_next_298 : List Item := [(298, .return_, 1, 55, 0, 0, 0, 0, [], .null)]
def kX9_next : Code9 := [(0, kX9_next_0), (38, kX9_next_38), (65, kX9_next_65), (104, kX9_next_104), (185, kX9_next_185), (219, kX9_next_219), (271, kX9_next_271), (298, kX9_next_298)]
theorem rX9_next_0 (sa : Nat → Nat) (E : Nat → Sem) (MC MS : Nat) (HX : Nat → Nat → Option Nat) (Q : Option Value → Mm → Prop) (X : Nat → Mm → Prop) (L : List Slot) (st : List Value) (M : Mm) (nc ns : Nat) : Run sa E MC MS HX Q X kX9_next 0 L st M nc ns = bk sa E MC MS HX (Run sa E MC MS HX Q X kX9_next) Q X kX9_next_0 L st M nc ns := Run_eq sa E MC MS HX Q X _ _ _ _ _ _ _
theorem rX9_next_38 (sa : Nat → Nat) (E : Nat → Sem) (MC MS : Nat) (HX : Nat → Nat → Option Nat) (Q : Option Value → Mm → Prop) (X : Nat → Mm → Prop) (L : List Slot) (st : List Value) (M : Mm) (nc ns : Nat) : Run sa E MC MS HX Q X kX9_next 38 L st M nc ns = bk sa E MC MS HX (Run sa E MC MS HX Q X kX9_next) Q X kX9_next_38 L st M nc ns := Run_eq sa E MC MS HX Q X _ _ _ _ _ _ _
theorem rX9_next_65 (sa : Nat → Nat) (E : Nat → Sem) (MC MS : Nat) (HX : Nat → Nat → Option Nat) (Q : Option Value → Mm → Prop) (X : Nat → Mm → Prop) (L : List Slot) (st : List Value) (M : Mm) (nc ns : Nat) : Run sa E MC MS HX Q X kX9_next 65 L st M nc ns = bk sa E MC MS HX (Run sa E MC MS HX Q X kX9_next) Q X kX9_next_65 L st M nc ns := Run_eq sa E MC MS HX Q X _ _ _ _ _ _ _
theorem rX9_next_104 (sa : Nat → Nat) (E : Nat → Sem) (MC MS : Nat) (HX : Nat → Nat → Option Nat) (Q : Option Value → Mm → Prop) (X : Nat → Mm → Prop) (L : List Slot) (st : List Value) (M : Mm) (nc ns : Nat) : Run sa E MC MS HX Q X kX9_next 104 L st M nc ns = bk sa E MC MS HX (Run sa E MC MS HX Q X kX9_next) Q X kX9_next_104 L st M nc ns := Run_eq sa E MC MS HX Q X _ _ _ _ _ _ _
theorem rX9_next_185 (sa : Nat → Nat) (E : Nat → Sem) (MC MS : Nat) (HX : Nat → Nat → Option Nat) (Q : Option Value → Mm → Prop) (X : Nat → Mm → Prop) (L : List Slot) (st : List Value) (M : Mm) (nc ns : Nat) : Run sa E MC MS HX Q X kX9_next 185 L st M nc ns = bk sa E MC MS HX (Run sa E MC MS HX Q X kX9_next) Q X kX9_next_185 L st M nc ns := Run_eq sa E MC MS HX Q X _ _ _ _ _ _ _
theorem rX9_next_219 (sa : Nat → Nat) (E : Nat → Sem) (MC MS : Nat) (HX : Nat → Nat → Option Nat) (Q : Option Value → Mm → Prop) (X : Nat → Mm → Prop) (L : List Slot) (st : List Value) (M : Mm) (nc ns : Nat) : Run sa E MC MS HX Q X kX9_next 219 L st M nc ns = bk sa E MC MS HX (Run sa E MC MS HX Q X kX9_next) Q X kX9_next_219 L st M nc ns := Run_eq sa E MC MS HX Q X _ _ _ _ _ _ _
theorem rX9_next_271 (sa : Nat → Nat) (E : Nat → Sem) (MC MS : Nat) (HX : Nat → Nat → Option Nat) (Q : Option Value → Mm → Prop) (X : Nat → Mm → Prop) (L : List Slot) (st : List Value) (M : Mm) (nc ns : Nat) : Run sa E MC MS HX Q X kX9_next 271 L st M nc ns = bk sa E MC MS HX (Run sa E MC MS HX Q X kX9_next) Q X kX9_next_271 L st M nc ns := Run_eq sa E MC MS HX Q X _ _ _ _ _ _ _
theorem rX9_next_298 (sa : Nat → Nat) (E : Nat → Sem) (MC MS : Nat) (HX : Nat → Nat → Option Nat) (Q : Option Value → Mm → Prop) (X : Nat → Mm → Prop) (L : List Slot) (st : List Value) (M : Mm) (nc ns : Nat) : Run sa E MC MS HX Q X kX9_next 298 L st M nc ns = bk sa E MC MS HX (Run sa E MC MS HX Q X kX9_next) Q X kX9_next_298 L st M nc ns := Run_eq sa E MC MS HX Q X _ _ _ _ _ _ _
def kX10_append_0 : List Item := [(0, .aload_n 0, 1, 3, 0, 0, 0, 0, [], .null),
    (1, .getfield 10, 3, 26, 10, 0, 0, 0, [], .null),
    (4, .getfield 37, 3, 26, 7, 0, 0, 0, [], .null),
    (7, .astore 6, 2, 5, 6, 0, 0, 0, [], .null),
    (9, .aload 6, 2, 3, 6, 0, 0, 0, [], .null),
    (11, .getfield 41, 3, 24, 9, 1, 0, 0, [], .null),
    (14, .bipush 20, 2, 0, 0, 0, 0, 0, [], .int 20),
    (16, .iadd, 1, 8, 0, 0, 0, 0, [], .null),
    (17, .sipush 900, 3, 0, 0, 0, 0, 0, [], .int 900),
    (20, .if_icmp .le 5, 3, 21, 25, 5, 0, 0, [], .null),
    (23, .iconst (-1), 1, 0, 0, 0, 0, 0, [], .int (-1)),
    (24, .ireturn, 1, 56, 0, 0, 0, 0, [], .null)]
def kX10_append_25 : List Item := [(25, .aload 6, 2, 3, 6, 0, 0, 0, [], .null),
    (27, .iload_n 1, 1, 1, 1, 0, 0, 0, [], .null),
    (28, .invokevirtual 46, 3, 48, 70, 2, 0, 0, [9], .null),
    (31, .aload 6, 2, 3, 6, 0, 0, 0, [], .null),
    (33, .iload_n 2, 1, 1, 2, 0, 0, 0, [], .null),
    (34, .invokevirtual 46, 3, 48, 70, 2, 0, 0, [9], .null),
    (37, .aload 6, 2, 3, 6, 0, 0, 0, [], .null),
    (39, .iload_n 3, 1, 1, 3, 0, 0, 0, [], .null),
    (40, .invokevirtual 46, 3, 48, 70, 2, 0, 0, [9], .null),
    (43, .aload 6, 2, 3, 6, 0, 0, 0, [], .null),
    (45, .iload 4, 2, 1, 4, 0, 0, 0, [], .null),
    (47, .invokevirtual 46, 3, 48, 70, 2, 0, 0, [9], .null),
    (50, .aload 6, 2, 3, 6, 0, 0, 0, [], .null),
    (52, .iload 5, 2, 1, 5, 0, 0, 0, [], .null),
    (54, .invokevirtual 46, 3, 48, 70, 2, 0, 0, [9], .null),
    (57, .aload 6, 2, 3, 6, 0, 0, 0, [], .null),
    (59, .getfield 41, 3, 24, 9, 1, 0, 0, [], .null),
    (62, .ireturn, 1, 56, 0, 0, 0, 0, [], .null)]
def kX10_append : Code9 := [(0, kX10_append_0), (25, kX10_append_25)]
theorem rX10_append_0 (sa : Nat → Nat) (E : Nat → Sem) (MC MS : Nat) (HX : Nat → Nat → Option Nat) (Q : Option Value → Mm → Prop) (X : Nat → Mm → Prop) (L : List Slot) (st : List Value) (M : Mm) (nc ns : Nat) : Run sa E MC MS HX Q X kX10_append 0 L st M nc ns = bk sa E MC MS HX (Run sa E MC MS HX Q X kX10_append) Q X kX10_append_0 L st M nc ns := Run_eq sa E MC MS HX Q X _ _ _ _ _ _ _
theorem rX10_append_25 (sa : Nat → Nat) (E : Nat → Sem) (MC MS : Nat) (HX : Nat → Nat → Option Nat) (Q : Option Value → Mm → Prop) (X : Nat → Mm → Prop) (L : List Slot) (st : List Value) (M : Mm) (nc ns : Nat) : Run sa E MC MS HX Q X kX10_append 25 L st M nc ns = bk sa E MC MS HX (Run sa E MC MS HX Q X kX10_append) Q X kX10_append_25 L st M nc ns := Run_eq sa E MC MS HX Q X _ _ _ _ _ _ _
def kX10_arrived_0 : List Item := [(0, .iload_n 1, 1, 1, 1, 0, 0, 0, [], .null),
    (1, .aload_n 0, 1, 3, 0, 0, 0, 0, [], .null),
    (2, .getfield 19, 3, 26, 10, 1, 0, 0, [], .null),
    (5, .getfield 71, 3, 26, 8, 0, 0, 0, [], .null),
    (8, .getfield 75, 3, 24, 0, 8, 0, 0, [], .null),
    (11, .invokestatic 123, 3, 48, 97, 2, 1, 6, [], .null),
    (14, .aload_n 0, 1, 3, 0, 0, 0, 0, [], .null),
    (15, .getfield 19, 3, 26, 10, 1, 0, 0, [], .null),
    (18, .getfield 71, 3, 26, 8, 0, 0, 0, [], .null),
    (21, .getfield 135, 3, 26, 0, 5, 0, 0, [], .null),
    (24, .iload_n 1, 1, 1, 1, 0, 0, 0, [], .null),
    (25, .iaload, 1, 31, 0, 0, 0, 0, [], .null),
    (26, .ireturn, 1, 56, 0, 0, 0, 0, [], .null)]
def kX10_arrived : Code9 := [(0, kX10_arrived_0)]
theorem rX10_arrived_0 (sa : Nat → Nat) (E : Nat → Sem) (MC MS : Nat) (HX : Nat → Nat → Option Nat) (Q : Option Value → Mm → Prop) (X : Nat → Mm → Prop) (L : List Slot) (st : List Value) (M : Mm) (nc ns : Nat) : Run sa E MC MS HX Q X kX10_arrived 0 L st M nc ns = bk sa E MC MS HX (Run sa E MC MS HX Q X kX10_arrived) Q X kX10_arrived_0 L st M nc ns := Run_eq sa E MC MS HX Q X _ _ _ _ _ _ _
def kX10_canalCount_0 : List Item := [(0, .aload_n 0, 1, 3, 0, 0, 0, 0, [], .null),
    (1, .getfield 19, 3, 26, 10, 1, 0, 0, [], .null),
    (4, .getfield 71, 3, 26, 8, 0, 0, 0, [], .null),
    (7, .getfield 75, 3, 24, 0, 8, 0, 0, [], .null),
    (10, .ireturn, 1, 56, 0, 0, 0, 0, [], .null)]
def kX10_canalCount : Code9 := [(0, kX10_canalCount_0)]
theorem rX10_canalCount_0 (sa : Nat → Nat) (E : Nat → Sem) (MC MS : Nat) (HX : Nat → Nat → Option Nat) (Q : Option Value → Mm → Prop) (X : Nat → Mm → Prop) (L : List Slot) (st : List Value) (M : Mm) (nc ns : Nat) : Run sa E MC MS HX Q X kX10_canalCount 0 L st M nc ns = bk sa E MC MS HX (Run sa E MC MS HX Q X kX10_canalCount) Q X kX10_canalCount_0 L st M nc ns := Run_eq sa E MC MS HX Q X _ _ _ _ _ _ _
def kX10_checksum_0 : List Item := [(0, .aload_n 0, 1, 3, 0, 0, 0, 0, [], .null),
    (1, .getfield 19, 3, 26, 10, 1, 0, 0, [], .null),
    (4, .getfield 87, 3, 24, 8, 6, 0, 0, [], .null),
    (7, .i2l, 1, 12, 0, 0, 0, 0, [], .null),
    (8, .lstore_n 1, 1, 6, 1, 0, 0, 0, [], .null),
    (9, .aload_n 0, 1, 3, 0, 0, 0, 0, [], .null),
    (10, .getfield 19, 3, 26, 10, 1, 0, 0, [], .null),
    (13, .getfield 71, 3, 26, 8, 0, 0, 0, [], .null),
    (16, .astore_n 3, 1, 5, 3, 0, 0, 0, [], .null),
    (17, .iconst 0, 1, 0, 0, 0, 0, 0, [], .int 0),
    (18, .istore 4, 2, 4, 4, 0, 0, 0, [], .null),
    (20, .nop, 0, 60, 20, 0, 0, 0, [], .null)]
def kX10_checksum_20 : List Item := [(20, .iload 4, 2, 1, 4, 0, 0, 0, [], .null),
    (22, .aload_n 3, 1, 3, 3, 0, 0, 0, [], .null),
    (23, .getfield 75, 3, 24, 0, 8, 0, 0, [], .null),
    (26, .if_icmp .ge 53, 3, 21, 79, 3, 0, 0, [], .null),
    (29, .iconst 0, 1, 0, 0, 0, 0, 0, [], .int 0),
    (30, .istore 5, 2, 4, 5, 0, 0, 0, [], .null),
    (32, .nop, 0, 60, 32, 0, 0, 0, [], .null)]
def kX10_checksum_32 : List Item := [(32, .iload 5, 2, 1, 5, 0, 0, 0, [], .null),
    (34, .aload_n 3, 1, 3, 3, 0, 0, 0, [], .null),
    (35, .getfield 210, 3, 26, 0, 1, 0, 0, [], .null),
    (38, .iload 4, 2, 1, 4, 0, 0, 0, [], .null),
    (40, .iaload, 1, 31, 0, 0, 0, 0, [], .null),
    (41, .if_icmp .ge 32, 3, 21, 73, 3, 0, 0, [], .null),
    (44, .ldc2_w 213, 3, 0, 0, 0, 0, 0, [], .long 31),
    (47, .lload_n 1, 1, 2, 1, 0, 0, 0, [], .null),
    (48, .lmul, 1, 10, 0, 2, 0, 0, [], .null),
    (49, .aload_n 3, 1, 3, 3, 0, 0, 0, [], .null),
    (50, .iload 4, 2, 1, 4, 0, 0, 0, [], .null),
    (52, .aload_n 0, 1, 3, 0, 0, 0, 0, [], .null),
    (53, .getfield 19, 3, 26, 10, 1, 0, 0, [], .null),
    (56, .getfield 87, 3, 24, 8, 6, 0, 0, [], .null),
    (59, .iload 5, 2, 1, 5, 0, 0, 0, [], .null),
    (61, .invokevirtual 131, 3, 48, 0, 4, 0, 0, [0], .null),
    (64, .i2l, 1, 12, 0, 0, 0, 0, [], .null),
    (65, .ladd, 1, 10, 0, 0, 0, 0, [], .null),
    (66, .lstore_n 1, 1, 6, 1, 0, 0, 0, [], .null),
    (67, .iinc 5 1, 3, 7, 5, 0, 0, 0, [], .int 1),
    (70, .goto (-38), 3, 22, 32, 0, 0, 0, [], .null)]
def kX10_checksum_73 : List Item := [(73, .iinc 4 1, 3, 7, 4, 0, 0, 0, [], .int 1),
    (76, .goto (-56), 3, 22, 20, 0, 0, 0, [], .null)]
def kX10_checksum_79 : List Item := [(79, .aload_n 0, 1, 3, 0, 0, 0, 0, [], .null),
    (80, .getfield 19, 3, 26, 10, 1, 0, 0, [], .null),
    (83, .getfield 80, 3, 26, 8, 1, 0, 0, [], .null),
    (86, .astore 4, 2, 5, 4, 0, 0, 0, [], .null),
    (88, .iconst 0, 1, 0, 0, 0, 0, 0, [], .int 0),
    (89, .istore 5, 2, 4, 5, 0, 0, 0, [], .null),
    (91, .nop, 0, 60, 91, 0, 0, 0, [], .null)]
def kX10_checksum_91 : List Item := [(91, .iload 5, 2, 1, 5, 0, 0, 0, [], .null),
    (93, .aload 4, 2, 3, 4, 0, 0, 0, [], .null),
    (95, .getfield 84, 3, 24, 1, 11, 0, 0, [], .null),
    (98, .if_icmp .ge 81, 3, 21, 179, 3, 0, 0, [], .null),
    (101, .ldc2_w 213, 3, 0, 0, 0, 0, 0, [], .long 31),
    (104, .lload_n 1, 1, 2, 1, 0, 0, 0, [], .null),
    (105, .lmul, 1, 10, 0, 2, 0, 0, [], .null),
    (106, .aload 4, 2, 3, 4, 0, 0, 0, [], .null),
    (108, .getfield 146, 3, 26, 1, 7, 0, 0, [], .null),
    (111, .iload 5, 2, 1, 5, 0, 0, 0, [], .null),
    (113, .iaload, 1, 31, 0, 0, 0, 0, [], .null),
    (114, .i2l, 1, 12, 0, 0, 0, 0, [], .null),
    (115, .ladd, 1, 10, 0, 0, 0, 0, [], .null),
    (116, .lstore_n 1, 1, 6, 1, 0, 0, 0, [], .null),
    (117, .ldc2_w 213, 3, 0, 0, 0, 0, 0, [], .long 31),
    (120, .lload_n 1, 1, 2, 1, 0, 0, 0, [], .null),
    (121, .lmul, 1, 10, 0, 2, 0, 0, [], .null),
    (122, .aload 4, 2, 3, 4, 0, 0, 0, [], .null),
    (124, .getfield 149, 3, 26, 1, 8, 0, 0, [], .null),
    (127, .iload 5, 2, 1, 5, 0, 0, 0, [], .null),
    (129, .iaload, 1, 31, 0, 0, 0, 0, [], .null),
    (130, .i2l, 1, 12, 0, 0, 0, 0, [], .null),
    (131, .ladd, 1, 10, 0, 0, 0, 0, [], .null),
    (132, .lstore_n 1, 1, 6, 1, 0, 0, 0, [], .null),
    (133, .ldc2_w 213, 3, 0, 0, 0, 0, 0, [], .long 31),
    (136, .lload_n 1, 1, 2, 1, 0, 0, 0, [], .null),
    (137, .lmul, 1, 10, 0, 2, 0, 0, [], .null),
    (138, .aload 4, 2, 3, 4, 0, 0, 0, [], .null),
    (140, .getfield 152, 3, 26, 1, 9, 0, 0, [], .null),
    (143, .iload 5, 2, 1, 5, 0, 0, 0, [], .null),
    (145, .iaload, 1, 31, 0, 0, 0, 0, [], .null),
    (146, .i2l, 1, 12, 0, 0, 0, 0, [], .null),
    (147, .ladd, 1, 10, 0, 0, 0, 0, [], .null),
    (148, .lstore_n 1, 1, 6, 1, 0, 0, 0, [], .null),
    (149, .ldc2_w 213, 3, 0, 0, 0, 0, 0, [], .long 31),
    (152, .lload_n 1, 1, 2, 1, 0, 0, 0, [], .null),
    (153, .lmul, 1, 10, 0, 2, 0, 0, [], .null),
    (154, .aload 4, 2, 3, 4, 0, 0, 0, [], .null),
    (156, .getfield 142, 3, 26, 1, 10, 0, 0, [], .null),
    (159, .iload 5, 2, 1, 5, 0, 0, 0, [], .null),
    (161, .baload, 1, 31, 1, 0, 0, 0, [], .null),
    (162, .ifCond .eq 7, 3, 20, 169, 0, 0, 0, [], .null),
    (165, .iconst 1, 1, 0, 0, 0, 0, 0, [], .int 1),
    (166, .goto 4, 3, 22, 170, 0, 0, 0, [], .null)]
def kX10_checksum_169 : List Item := [(169, .iconst 0, 1, 0, 0, 0, 0, 0, [], .int 0),
    (170, .i2l, 1, 12, 0, 0, 0, 0, [], .null),
    (171, .ladd, 1, 10, 0, 0, 0, 0, [], .null),
    (172, .lstore_n 1, 1, 6, 1, 0, 0, 0, [], .null),
    (173, .iinc 5 1, 3, 7, 5, 0, 0, 0, [], .int 1),
    (176, .goto (-85), 3, 22, 91, 0, 0, 0, [], .null)]
def kX10_checksum_170 : List Item := [(170, .i2l, 1, 12, 0, 0, 0, 0, [], .null),
    (171, .ladd, 1, 10, 0, 0, 0, 0, [], .null),
    (172, .lstore_n 1, 1, 6, 1, 0, 0, 0, [], .null),
    (173, .iinc 5 1, 3, 7, 5, 0, 0, 0, [], .int 1),
    (176, .goto (-85), 3, 22, 91, 0, 0, 0, [], .null)]
def kX10_checksum_179 : List Item := [(179, .iconst 0, 1, 0, 0, 0, 0, 0, [], .int 0),
    (180, .istore 5, 2, 4, 5, 0, 0, 0, [], .null),
    (182, .nop, 0, 60, 182, 0, 0, 0, [], .null)]
def kX10_checksum_182 : List Item := [(182, .iload 5, 2, 1, 5, 0, 0, 0, [], .null),
    (184, .bipush 6, 2, 0, 0, 0, 0, 0, [], .int 6),
    (186, .if_icmp .ge 30, 3, 21, 216, 3, 0, 0, [], .null),
    (189, .ldc2_w 213, 3, 0, 0, 0, 0, 0, [], .long 31),
    (192, .lload_n 1, 1, 2, 1, 0, 0, 0, [], .null),
    (193, .lmul, 1, 10, 0, 2, 0, 0, [], .null),
    (194, .aload_n 0, 1, 3, 0, 0, 0, 0, [], .null),
    (195, .getfield 19, 3, 26, 10, 1, 0, 0, [], .null),
    (198, .getfield 155, 3, 26, 8, 5, 0, 0, [], .null),
    (201, .getfield 159, 3, 26, 5, 0, 0, 0, [], .null),
    (204, .iload 5, 2, 1, 5, 0, 0, 0, [], .null),
    (206, .iaload, 1, 31, 0, 0, 0, 0, [], .null),
    (207, .i2l, 1, 12, 0, 0, 0, 0, [], .null),
    (208, .ladd, 1, 10, 0, 0, 0, 0, [], .null),
    (209, .lstore_n 1, 1, 6, 1, 0, 0, 0, [], .null),
    (210, .iinc 5 1, 3, 7, 5, 0, 0, 0, [], .int 1),
    (213, .goto (-31), 3, 22, 182, 0, 0, 0, [], .null)]
def kX10_checksum_216 : List Item := [(216, .ldc2_w 213, 3, 0, 0, 0, 0, 0, [], .long 31),
    (219, .lload_n 1, 1, 2, 1, 0, 0, 0, [], .null),
    (220, .lmul, 1, 10, 0, 2, 0, 0, [], .null),
    (221, .aload_n 0, 1, 3, 0, 0, 0, 0, [], .null),
    (222, .getfield 19, 3, 26, 10, 1, 0, 0, [], .null),
    (225, .getfield 113, 3, 26, 8, 3, 0, 0, [], .null),
    (228, .invokevirtual 117, 3, 48, 35, 1, 0, 0, [3], .null),
    (231, .i2l, 1, 12, 0, 0, 0, 0, [], .null),
    (232, .ladd, 1, 10, 0, 0, 0, 0, [], .null),
    (233, .lreturn, 1, 57, 0, 0, 0, 0, [], .null)]
def kX10_checksum : Code9 := [(0, kX10_checksum_0), (20, kX10_checksum_20), (32, kX10_checksum_32), (73, kX10_checksum_73), (79, kX10_checksum_79), (91, kX10_checksum_91), (169, kX10_checksum_169), (170, kX10_checksum_170), (179, kX10_checksum_179), (182, kX10_checksum_182), (216, kX10_checksum_216)]
theorem rX10_checksum_0 (sa : Nat → Nat) (E : Nat → Sem) (MC MS : Nat) (HX : Nat → Nat → Option Nat) (Q : Option Value → Mm → Prop) (X : Nat → Mm → Prop) (L : List Slot) (st : List Value) (M : Mm) (nc ns : Nat) : Run sa E MC MS HX Q X kX10_checksum 0 L st M nc ns = bk sa E MC MS HX (Run sa E MC MS HX Q X kX10_checksum) Q X kX10_checksum_0 L st M nc ns := Run_eq sa E MC MS HX Q X _ _ _ _ _ _ _
theorem rX10_checksum_20 (sa : Nat → Nat) (E : Nat → Sem) (MC MS : Nat) (HX : Nat → Nat → Option Nat) (Q : Option Value → Mm → Prop) (X : Nat → Mm → Prop) (L : List Slot) (st : List Value) (M : Mm) (nc ns : Nat) : Run sa E MC MS HX Q X kX10_checksum 20 L st M nc ns = bk sa E MC MS HX (Run sa E MC MS HX Q X kX10_checksum) Q X kX10_checksum_20 L st M nc ns := Run_eq sa E MC MS HX Q X _ _ _ _ _ _ _
theorem rX10_checksum_32 (sa : Nat → Nat) (E : Nat → Sem) (MC MS : Nat) (HX : Nat → Nat → Option Nat) (Q : Option Value → Mm → Prop) (X : Nat → Mm → Prop) (L : List Slot) (st : List Value) (M : Mm) (nc ns : Nat) : Run sa E MC MS HX Q X kX10_checksum 32 L st M nc ns = bk sa E MC MS HX (Run sa E MC MS HX Q X kX10_checksum) Q X kX10_checksum_32 L st M nc ns := Run_eq sa E MC MS HX Q X _ _ _ _ _ _ _
theorem rX10_checksum_73 (sa : Nat → Nat) (E : Nat → Sem) (MC MS : Nat) (HX : Nat → Nat → Option Nat) (Q : Option Value → Mm → Prop) (X : Nat → Mm → Prop) (L : List Slot) (st : List Value) (M : Mm) (nc ns : Nat) : Run sa E MC MS HX Q X kX10_checksum 73 L st M nc ns = bk sa E MC MS HX (Run sa E MC MS HX Q X kX10_checksum) Q X kX10_checksum_73 L st M nc ns := Run_eq sa E MC MS HX Q X _ _ _ _ _ _ _
theorem rX10_checksum_79 (sa : Nat → Nat) (E : Nat → Sem) (MC MS : Nat) (HX : Nat → Nat → Option Nat) (Q : Option Value → Mm → Prop) (X : Nat → Mm → Prop) (L : List Slot) (st : List Value) (M : Mm) (nc ns : Nat) : Run sa E MC MS HX Q X kX10_checksum 79 L st M nc ns = bk sa E MC MS HX (Run sa E MC MS HX Q X kX10_checksum) Q X kX10_checksum_79 L st M nc ns := Run_eq sa E MC MS HX Q X _ _ _ _ _ _ _
theorem rX10_checksum_91 (sa : Nat → Nat) (E : Nat → Sem) (MC MS : Nat) (HX : Nat → Nat → Option Nat) (Q : Option Value → Mm → Prop) (X : Nat → Mm → Prop) (L : List Slot) (st : List Value) (M : Mm) (nc ns : Nat) : Run sa E MC MS HX Q X kX10_checksum 91 L st M nc ns = bk sa E MC MS HX (Run sa E MC MS HX Q X kX10_checksum) Q X kX10_checksum_91 L st M nc ns := Run_eq sa E MC MS HX Q X _ _ _ _ _ _ _
theorem rX10_checksum_169 (sa : Nat → Nat) (E : Nat → Sem) (MC MS : Nat) (HX : Nat → Nat → Option Nat) (Q : Option Value → Mm → Prop) (X : Nat → Mm → Prop) (L : List Slot) (st : List Value) (M : Mm) (nc ns : Nat) : Run sa E MC MS HX Q X kX10_checksum 169 L st M nc ns = bk sa E MC MS HX (Run sa E MC MS HX Q X kX10_checksum) Q X kX10_checksum_169 L st M nc ns := Run_eq sa E MC MS HX Q X _ _ _ _ _ _ _
theorem rX10_checksum_170 (sa : Nat → Nat) (E : Nat → Sem) (MC MS : Nat) (HX : Nat → Nat → Option Nat) (Q : Option Value → Mm → Prop) (X : Nat → Mm → Prop) (L : List Slot) (st : List Value) (M : Mm) (nc ns : Nat) : Run sa E MC MS HX Q X kX10_checksum 170 L st M nc ns = bk sa E MC MS HX (Run sa E MC MS HX Q X kX10_checksum) Q X kX10_checksum_170 L st M nc ns := Run_eq sa E MC MS HX Q X _ _ _ _ _ _ _
theorem rX10_checksum_179 (sa : Nat → Nat) (E : Nat → Sem) (MC MS : Nat) (HX : Nat → Nat → Option Nat) (Q : Option Value → Mm → Prop) (X : Nat → Mm → Prop) (L : List Slot) (st : List Value) (M : Mm) (nc ns : Nat) : Run sa E MC MS HX Q X kX10_checksum 179 L st M nc ns = bk sa E MC MS HX (Run sa E MC MS HX Q X kX10_checksum) Q X kX10_checksum_179 L st M nc ns := Run_eq sa E MC MS HX Q X _ _ _ _ _ _ _
theorem rX10_checksum_182 (sa : Nat → Nat) (E : Nat → Sem) (MC MS : Nat) (HX : Nat → Nat → Option Nat) (Q : Option Value → Mm → Prop) (X : Nat → Mm → Prop) (L : List Slot) (st : List Value) (M : Mm) (nc ns : Nat) : Run sa E MC MS HX Q X kX10_checksum 182 L st M nc ns = bk sa E MC MS HX (Run sa E MC MS HX Q X kX10_checksum) Q X kX10_checksum_182 L st M nc ns := Run_eq sa E MC MS HX Q X _ _ _ _ _ _ _
theorem rX10_checksum_216 (sa : Nat → Nat) (E : Nat → Sem) (MC MS : Nat) (HX : Nat → Nat → Option Nat) (Q : Option Value → Mm → Prop) (X : Nat → Mm → Prop) (L : List Slot) (st : List Value) (M : Mm) (nc ns : Nat) : Run sa E MC MS HX Q X kX10_checksum 216 L st M nc ns = bk sa E MC MS HX (Run sa E MC MS HX Q X kX10_checksum) Q X kX10_checksum_216 L st M nc ns := Run_eq sa E MC MS HX Q X _ _ _ _ _ _ _
def kX10_clock_0 : List Item := [(0, .aload_n 0, 1, 3, 0, 0, 0, 0, [], .null),
    (1, .getfield 19, 3, 26, 10, 1, 0, 0, [], .null),
    (4, .getfield 87, 3, 24, 8, 6, 0, 0, [], .null),
    (7, .ireturn, 1, 56, 0, 0, 0, 0, [], .null)]
def kX10_clock : Code9 := [(0, kX10_clock_0)]
theorem rX10_clock_0 (sa : Nat → Nat) (E : Nat → Sem) (MC MS : Nat) (HX : Nat → Nat → Option Nat) (Q : Option Value → Mm → Prop) (X : Nat → Mm → Prop) (L : List Slot) (st : List Value) (M : Mm) (nc ns : Nat) : Run sa E MC MS HX Q X kX10_clock 0 L st M nc ns = bk sa E MC MS HX (Run sa E MC MS HX Q X kX10_clock) Q X kX10_clock_0 L st M nc ns := Run_eq sa E MC MS HX Q X _ _ _ _ _ _ _
def kX10_copyRow_0 : List Item := [(0, .aload_n 0, 1, 3, 0, 0, 0, 0, [], .null),
    (1, .iconst 0, 1, 0, 0, 0, 0, 0, [], .int 0),
    (2, .aload_n 1, 1, 3, 1, 0, 0, 0, [], .null),
    (3, .iconst 0, 1, 0, 0, 0, 0, 0, [], .int 0),
    (4, .aload_n 0, 1, 3, 0, 0, 0, 0, [], .null),
    (5, .arraylength, 1, 42, 0, 0, 0, 0, [], .null),
    (6, .aload_n 1, 1, 3, 1, 0, 0, 0, [], .null),
    (7, .arraylength, 1, 42, 0, 0, 0, 0, [], .null),
    (8, .invokestatic 221, 3, 49, 0, 0, 0, 0, [], .null),
    (11, .invokestatic 226, 3, 51, 0, 0, 0, 0, [], .null),
    (14, .return_, 1, 55, 0, 0, 0, 0, [], .null)]
def kX10_copyRow : Code9 := [(0, kX10_copyRow_0)]
theorem rX10_copyRow_0 (sa : Nat → Nat) (E : Nat → Sem) (MC MS : Nat) (HX : Nat → Nat → Option Nat) (Q : Option Value → Mm → Prop) (X : Nat → Mm → Prop) (L : List Slot) (st : List Value) (M : Mm) (nc ns : Nat) : Run sa E MC MS HX Q X kX10_copyRow 0 L st M nc ns = bk sa E MC MS HX (Run sa E MC MS HX Q X kX10_copyRow) Q X kX10_copyRow_0 L st M nc ns := Run_eq sa E MC MS HX Q X _ _ _ _ _ _ _
def kX10_cycleLength_0 : List Item := [(0, .aload_n 0, 1, 3, 0, 0, 0, 0, [], .null),
    (1, .getfield 19, 3, 26, 10, 1, 0, 0, [], .null),
    (4, .getfield 90, 3, 26, 8, 2, 0, 0, [], .null),
    (7, .getfield 94, 3, 24, 6, 3, 0, 0, [], .null),
    (10, .ireturn, 1, 56, 0, 0, 0, 0, [], .null)]
def kX10_cycleLength : Code9 := [(0, kX10_cycleLength_0)]
theorem rX10_cycleLength_0 (sa : Nat → Nat) (E : Nat → Sem) (MC MS : Nat) (HX : Nat → Nat → Option Nat) (Q : Option Value → Mm → Prop) (X : Nat → Mm → Prop) (L : List Slot) (st : List Value) (M : Mm) (nc ns : Nat) : Run sa E MC MS HX Q X kX10_cycleLength 0 L st M nc ns = bk sa E MC MS HX (Run sa E MC MS HX Q X kX10_cycleLength) Q X kX10_cycleLength_0 L st M nc ns := Run_eq sa E MC MS HX Q X _ _ _ _ _ _ _
def kX10_errorOffset_0 : List Item := [(0, .aload_n 0, 1, 3, 0, 0, 0, 0, [], .null),
    (1, .getfield 33, 3, 24, 10, 4, 0, 0, [], .null),
    (4, .ireturn, 1, 56, 0, 0, 0, 0, [], .null)]
def kX10_errorOffset : Code9 := [(0, kX10_errorOffset_0)]
theorem rX10_errorOffset_0 (sa : Nat → Nat) (E : Nat → Sem) (MC MS : Nat) (HX : Nat → Nat → Option Nat) (Q : Option Value → Mm → Prop) (X : Nat → Mm → Prop) (L : List Slot) (st : List Value) (M : Mm) (nc ns : Nat) : Run sa E MC MS HX Q X kX10_errorOffset 0 L st M nc ns = bk sa E MC MS HX (Run sa E MC MS HX Q X kX10_errorOffset) Q X kX10_errorOffset_0 L st M nc ns := Run_eq sa E MC MS HX Q X _ _ _ _ _ _ _
def kX10_expected_0 : List Item := [(0, .iload_n 1, 1, 1, 1, 0, 0, 0, [], .null),
    (1, .aload_n 0, 1, 3, 0, 0, 0, 0, [], .null),
    (2, .getfield 19, 3, 26, 10, 1, 0, 0, [], .null),
    (5, .getfield 71, 3, 26, 8, 0, 0, 0, [], .null),
    (8, .getfield 75, 3, 24, 0, 8, 0, 0, [], .null),
    (11, .invokestatic 123, 3, 48, 97, 2, 1, 6, [], .null),
    (14, .iload_n 2, 1, 1, 2, 0, 0, 0, [], .null),
    (15, .iconst 0, 1, 0, 0, 0, 0, 0, [], .int 0),
    (16, .bipush 100, 2, 0, 0, 0, 0, 0, [], .int 100),
    (18, .invokestatic 50, 3, 48, 98, 3, 1, 6, [], .null),
    (21, .aload_n 0, 1, 3, 0, 0, 0, 0, [], .null),
    (22, .iload_n 1, 1, 1, 1, 0, 0, 0, [], .null),
    (23, .iload_n 2, 1, 1, 2, 0, 0, 0, [], .null),
    (24, .iconst (-1), 1, 0, 0, 0, 0, 0, [], .int (-1)),
    (25, .invokevirtual 192, 3, 48, 88, 4, 0, 0, [10], .null),
    (28, .ireturn, 1, 56, 0, 0, 0, 0, [], .null)]
def kX10_expected : Code9 := [(0, kX10_expected_0)]
theorem rX10_expected_0 (sa : Nat → Nat) (E : Nat → Sem) (MC MS : Nat) (HX : Nat → Nat → Option Nat) (Q : Option Value → Mm → Prop) (X : Nat → Mm → Prop) (L : List Slot) (st : List Value) (M : Mm) (nc ns : Nat) : Run sa E MC MS HX Q X kX10_expected 0 L st M nc ns = bk sa E MC MS HX (Run sa E MC MS HX Q X kX10_expected) Q X kX10_expected_0 L st M nc ns := Run_eq sa E MC MS HX Q X _ _ _ _ _ _ _
def kX10_fairHours_0 : List Item := [(0, .iload_n 1, 1, 1, 1, 0, 0, 0, [], .null),
    (1, .bipush 6, 2, 0, 0, 0, 0, 0, [], .int 6),
    (3, .invokestatic 123, 3, 48, 97, 2, 1, 6, [], .null),
    (6, .iload_n 2, 1, 1, 2, 0, 0, 0, [], .null),
    (7, .iconst 0, 1, 0, 0, 0, 0, 0, [], .int 0),
    (8, .sipush 1000, 3, 0, 0, 0, 0, 0, [], .int 1000),
    (11, .invokestatic 50, 3, 48, 98, 3, 1, 6, [], .null),
    (14, .aload_n 0, 1, 3, 0, 0, 0, 0, [], .null),
    (15, .getfield 19, 3, 26, 10, 1, 0, 0, [], .null),
    (18, .getfield 80, 3, 26, 8, 1, 0, 0, [], .null),
    (21, .iload_n 1, 1, 1, 1, 0, 0, 0, [], .null),
    (22, .iload_n 2, 1, 1, 2, 0, 0, 0, [], .null),
    (23, .invokevirtual 182, 3, 48, 16, 3, 0, 0, [1], .null),
    (26, .ireturn, 1, 56, 0, 0, 0, 0, [], .null)]
def kX10_fairHours : Code9 := [(0, kX10_fairHours_0)]
theorem rX10_fairHours_0 (sa : Nat → Nat) (E : Nat → Sem) (MC MS : Nat) (HX : Nat → Nat → Option Nat) (Q : Option Value → Mm → Prop) (X : Nat → Mm → Prop) (L : List Slot) (st : List Value) (M : Mm) (nc ns : Nat) : Run sa E MC MS HX Q X kX10_fairHours 0 L st M nc ns = bk sa E MC MS HX (Run sa E MC MS HX Q X kX10_fairHours) Q X kX10_fairHours_0 L st M nc ns := Run_eq sa E MC MS HX Q X _ _ _ _ _ _ _
def kX10_fieldCount_0 : List Item := [(0, .aload_n 0, 1, 3, 0, 0, 0, 0, [], .null),
    (1, .getfield 19, 3, 26, 10, 1, 0, 0, [], .null),
    (4, .getfield 80, 3, 26, 8, 1, 0, 0, [], .null),
    (7, .getfield 84, 3, 24, 1, 11, 0, 0, [], .null),
    (10, .ireturn, 1, 56, 0, 0, 0, 0, [], .null)]
def kX10_fieldCount : Code9 := [(0, kX10_fieldCount_0)]
theorem rX10_fieldCount_0 (sa : Nat → Nat) (E : Nat → Sem) (MC MS : Nat) (HX : Nat → Nat → Option Nat) (Q : Option Value → Mm → Prop) (X : Nat → Mm → Prop) (L : List Slot) (st : List Value) (M : Mm) (nc ns : Nat) : Run sa E MC MS HX Q X kX10_fieldCount 0 L st M nc ns = bk sa E MC MS HX (Run sa E MC MS HX Q X kX10_fieldCount) Q X kX10_fieldCount_0 L st M nc ns := Run_eq sa E MC MS HX Q X _ _ _ _ _ _ _
def kX10_fines_0 : List Item := [(0, .iload_n 1, 1, 1, 1, 0, 0, 0, [], .null),
    (1, .bipush 6, 2, 0, 0, 0, 0, 0, [], .int 6),
    (3, .invokestatic 123, 3, 48, 97, 2, 1, 6, [], .null),
    (6, .aload_n 0, 1, 3, 0, 0, 0, 0, [], .null),
    (7, .getfield 19, 3, 26, 10, 1, 0, 0, [], .null),
    (10, .getfield 155, 3, 26, 8, 5, 0, 0, [], .null),
    (13, .getfield 159, 3, 26, 5, 0, 0, 0, [], .null),
    (16, .iload_n 1, 1, 1, 1, 0, 0, 0, [], .null),
    (17, .iaload, 1, 31, 0, 0, 0, 0, [], .null),
    (18, .ireturn, 1, 56, 0, 0, 0, 0, [], .null)]
def kX10_fines : Code9 := [(0, kX10_fines_0)]
theorem rX10_fines_0 (sa : Nat → Nat) (E : Nat → Sem) (MC MS : Nat) (HX : Nat → Nat → Option Nat) (Q : Option Value → Mm → Prop) (X : Nat → Mm → Prop) (L : List Slot) (st : List Value) (M : Mm) (nc ns : Nat) : Run sa E MC MS HX Q X kX10_fines 0 L st M nc ns = bk sa E MC MS HX (Run sa E MC MS HX Q X kX10_fines) Q X kX10_fines_0 L st M nc ns := Run_eq sa E MC MS HX Q X _ _ _ _ _ _ _
def kX10_force_0 : List Item := [(0, .iload_n 1, 1, 1, 1, 0, 0, 0, [], .null),
    (1, .aload_n 0, 1, 3, 0, 0, 0, 0, [], .null),
    (2, .getfield 19, 3, 26, 10, 1, 0, 0, [], .null),
    (5, .getfield 80, 3, 26, 8, 1, 0, 0, [], .null),
    (8, .getfield 84, 3, 24, 1, 11, 0, 0, [], .null),
    (11, .invokestatic 123, 3, 48, 97, 2, 1, 6, [], .null),
    (14, .aload_n 0, 1, 3, 0, 0, 0, 0, [], .null),
    (15, .getfield 19, 3, 26, 10, 1, 0, 0, [], .null),
    (18, .getfield 80, 3, 26, 8, 1, 0, 0, [], .null),
    (21, .getfield 142, 3, 26, 1, 10, 0, 0, [], .null),
    (24, .iload_n 1, 1, 1, 1, 0, 0, 0, [], .null),
    (25, .baload, 1, 31, 1, 0, 0, 0, [], .null),
    (26, .ifCond .eq 11, 3, 20, 37, 0, 0, 0, [], .null),
    (29, .new 195, 3, 59, 2, 0, 0, 0, [], .null)]
def kX10_force_37 : List Item := [(37, .aload_n 0, 1, 3, 0, 0, 0, 0, [], .null),
    (38, .getfield 29, 3, 26, 10, 3, 0, 0, [], .null),
    (41, .aload_n 0, 1, 3, 0, 0, 0, 0, [], .null),
    (42, .getfield 19, 3, 26, 10, 1, 0, 0, [], .null),
    (45, .invokevirtual 61, 3, 48, 39, 2, 0, 0, [4], .null),
    (48, .aload_n 0, 1, 3, 0, 0, 0, 0, [], .null),
    (49, .getfield 19, 3, 26, 10, 1, 0, 0, [], .null),
    (52, .getfield 80, 3, 26, 8, 1, 0, 0, [], .null),
    (55, .getfield 142, 3, 26, 1, 10, 0, 0, [], .null),
    (58, .iload_n 1, 1, 1, 1, 0, 0, 0, [], .null),
    (59, .iconst 1, 1, 0, 0, 0, 0, 0, [], .int 1),
    (60, .bastore, 1, 35, 1, 0, 0, 0, [], .null),
    (61, .aload_n 0, 1, 3, 0, 0, 0, 0, [], .null),
    (62, .getfield 19, 3, 26, 10, 1, 0, 0, [], .null),
    (65, .getfield 80, 3, 26, 8, 1, 0, 0, [], .null),
    (68, .invokevirtual 198, 3, 48, 14, 1, 0, 0, [1], .null),
    (71, .ireturn, 1, 56, 0, 0, 0, 0, [], .null)]
def kX10_force : Code9 := [(0, kX10_force_0), (37, kX10_force_37)]
theorem rX10_force_0 (sa : Nat → Nat) (E : Nat → Sem) (MC MS : Nat) (HX : Nat → Nat → Option Nat) (Q : Option Value → Mm → Prop) (X : Nat → Mm → Prop) (L : List Slot) (st : List Value) (M : Mm) (nc ns : Nat) : Run sa E MC MS HX Q X kX10_force 0 L st M nc ns = bk sa E MC MS HX (Run sa E MC MS HX Q X kX10_force) Q X kX10_force_0 L st M nc ns := Run_eq sa E MC MS HX Q X _ _ _ _ _ _ _
theorem rX10_force_37 (sa : Nat → Nat) (E : Nat → Sem) (MC MS : Nat) (HX : Nat → Nat → Option Nat) (Q : Option Value → Mm → Prop) (X : Nat → Mm → Prop) (L : List Slot) (st : List Value) (M : Mm) (nc ns : Nat) : Run sa E MC MS HX Q X kX10_force 37 L st M nc ns = bk sa E MC MS HX (Run sa E MC MS HX Q X kX10_force) Q X kX10_force_37 L st M nc ns := Run_eq sa E MC MS HX Q X _ _ _ _ _ _ _
def kX10_forecastArrivals_0 : List Item := [(0, .aload_n 0, 1, 3, 0, 0, 0, 0, [], .null),
    (1, .getfield 23, 3, 26, 10, 2, 0, 0, [], .null),
    (4, .aload_n 0, 1, 3, 0, 0, 0, 0, [], .null),
    (5, .getfield 19, 3, 26, 10, 1, 0, 0, [], .null),
    (8, .invokevirtual 68, 3, 48, 64, 2, 0, 0, [8], .null),
    (11, .iload_n 3, 1, 1, 3, 0, 0, 0, [], .null),
    (12, .ifCond .lt 30, 3, 20, 42, 2, 0, 0, [], .null),
    (15, .iload_n 3, 1, 1, 3, 0, 0, 0, [], .null),
    (16, .aload_n 0, 1, 3, 0, 0, 0, 0, [], .null),
    (17, .getfield 23, 3, 26, 10, 2, 0, 0, [], .null),
    (20, .getfield 80, 3, 26, 8, 1, 0, 0, [], .null),
    (23, .getfield 84, 3, 24, 1, 11, 0, 0, [], .null),
    (26, .if_icmp .ge 16, 3, 21, 42, 3, 0, 0, [], .null),
    (29, .aload_n 0, 1, 3, 0, 0, 0, 0, [], .null),
    (30, .getfield 23, 3, 26, 10, 2, 0, 0, [], .null),
    (33, .getfield 80, 3, 26, 8, 1, 0, 0, [], .null),
    (36, .getfield 142, 3, 26, 1, 10, 0, 0, [], .null),
    (39, .iload_n 3, 1, 1, 3, 0, 0, 0, [], .null),
    (40, .iconst 1, 1, 0, 0, 0, 0, 0, [], .int 1),
    (41, .bastore, 1, 35, 1, 0, 0, 0, [], .null),
    (42, .iconst 0, 1, 0, 0, 0, 0, 0, [], .int 0),
    (43, .istore 4, 2, 4, 4, 0, 0, 0, [], .null),
    (45, .iconst 0, 1, 0, 0, 0, 0, 0, [], .int 0),
    (46, .istore 5, 2, 4, 5, 0, 0, 0, [], .null),
    (48, .nop, 0, 60, 48, 0, 0, 0, [], .null)]
def kX10_forecastArrivals_42 : List Item := [(42, .iconst 0, 1, 0, 0, 0, 0, 0, [], .int 0),
    (43, .istore 4, 2, 4, 4, 0, 0, 0, [], .null),
    (45, .iconst 0, 1, 0, 0, 0, 0, 0, [], .int 0),
    (46, .istore 5, 2, 4, 5, 0, 0, 0, [], .null),
    (48, .nop, 0, 60, 48, 0, 0, 0, [], .null)]
def kX10_forecastArrivals_48 : List Item := [(48, .iload 5, 2, 1, 5, 0, 0, 0, [], .null),
    (50, .iload_n 2, 1, 1, 2, 0, 0, 0, [], .null),
    (51, .if_icmp .ge 34, 3, 21, 85, 3, 0, 0, [], .null),
    (54, .aload_n 0, 1, 3, 0, 0, 0, 0, [], .null),
    (55, .getfield 23, 3, 26, 10, 2, 0, 0, [], .null),
    (58, .invokevirtual 189, 3, 48, 69, 1, 0, 0, [8], .null),
    (61, .pop, 1, 19, 0, 0, 0, 0, [], .null),
    (62, .iload 4, 2, 1, 4, 0, 0, 0, [], .null),
    (64, .aload_n 0, 1, 3, 0, 0, 0, 0, [], .null),
    (65, .getfield 23, 3, 26, 10, 2, 0, 0, [], .null),
    (68, .getfield 71, 3, 26, 8, 0, 0, 0, [], .null),
    (71, .getfield 135, 3, 26, 0, 5, 0, 0, [], .null),
    (74, .iload_n 1, 1, 1, 1, 0, 0, 0, [], .null),
    (75, .iaload, 1, 31, 0, 0, 0, 0, [], .null),
    (76, .iadd, 1, 8, 0, 0, 0, 0, [], .null),
    (77, .istore 4, 2, 4, 4, 0, 0, 0, [], .null),
    (79, .iinc 5 1, 3, 7, 5, 0, 0, 0, [], .int 1),
    (82, .goto (-34), 3, 22, 48, 0, 0, 0, [], .null)]
def kX10_forecastArrivals_85 : List Item := [(85, .iload 4, 2, 1, 4, 0, 0, 0, [], .null),
    (87, .ireturn, 1, 56, 0, 0, 0, 0, [], .null)]
def kX10_forecastArrivals : Code9 := [(0, kX10_forecastArrivals_0), (42, kX10_forecastArrivals_42), (48, kX10_forecastArrivals_48), (85, kX10_forecastArrivals_85)]
theorem rX10_forecastArrivals_0 (sa : Nat → Nat) (E : Nat → Sem) (MC MS : Nat) (HX : Nat → Nat → Option Nat) (Q : Option Value → Mm → Prop) (X : Nat → Mm → Prop) (L : List Slot) (st : List Value) (M : Mm) (nc ns : Nat) : Run sa E MC MS HX Q X kX10_forecastArrivals 0 L st M nc ns = bk sa E MC MS HX (Run sa E MC MS HX Q X kX10_forecastArrivals) Q X kX10_forecastArrivals_0 L st M nc ns := Run_eq sa E MC MS HX Q X _ _ _ _ _ _ _
theorem rX10_forecastArrivals_42 (sa : Nat → Nat) (E : Nat → Sem) (MC MS : Nat) (HX : Nat → Nat → Option Nat) (Q : Option Value → Mm → Prop) (X : Nat → Mm → Prop) (L : List Slot) (st : List Value) (M : Mm) (nc ns : Nat) : Run sa E MC MS HX Q X kX10_forecastArrivals 42 L st M nc ns = bk sa E MC MS HX (Run sa E MC MS HX Q X kX10_forecastArrivals) Q X kX10_forecastArrivals_42 L st M nc ns := Run_eq sa E MC MS HX Q X _ _ _ _ _ _ _
theorem rX10_forecastArrivals_48 (sa : Nat → Nat) (E : Nat → Sem) (MC MS : Nat) (HX : Nat → Nat → Option Nat) (Q : Option Value → Mm → Prop) (X : Nat → Mm → Prop) (L : List Slot) (st : List Value) (M : Mm) (nc ns : Nat) : Run sa E MC MS HX Q X kX10_forecastArrivals 48 L st M nc ns = bk sa E MC MS HX (Run sa E MC MS HX Q X kX10_forecastArrivals) Q X kX10_forecastArrivals_48 L st M nc ns := Run_eq sa E MC MS HX Q X _ _ _ _ _ _ _
theorem rX10_forecastArrivals_85 (sa : Nat → Nat) (E : Nat → Sem) (MC MS : Nat) (HX : Nat → Nat → Option Nat) (Q : Option Value → Mm → Prop) (X : Nat → Mm → Prop) (L : List Slot) (st : List Value) (M : Mm) (nc ns : Nat) : Run sa E MC MS HX Q X kX10_forecastArrivals 85 L st M nc ns = bk sa E MC MS HX (Run sa E MC MS HX Q X kX10_forecastArrivals) Q X kX10_forecastArrivals_85 L st M nc ns := Run_eq sa E MC MS HX Q X _ _ _ _ _ _ _
def kX10_guardAt_0 : List Item := [(0, .aload_n 0, 1, 3, 0, 0, 0, 0, [], .null),
    (1, .getfield 19, 3, 26, 10, 1, 0, 0, [], .null),
    (4, .getfield 113, 3, 26, 8, 3, 0, 0, [], .null),
    (7, .invokevirtual 117, 3, 48, 35, 1, 0, 0, [3], .null),
    (10, .ireturn, 1, 56, 0, 0, 0, 0, [], .null)]
def kX10_guardAt : Code9 := [(0, kX10_guardAt_0)]
theorem rX10_guardAt_0 (sa : Nat → Nat) (E : Nat → Sem) (MC MS : Nat) (HX : Nat → Nat → Option Nat) (Q : Option Value → Mm → Prop) (X : Nat → Mm → Prop) (L : List Slot) (st : List Value) (M : Mm) (nc ns : Nat) : Run sa E MC MS HX Q X kX10_guardAt 0 L st M nc ns = bk sa E MC MS HX (Run sa E MC MS HX Q X kX10_guardAt) Q X kX10_guardAt_0 L st M nc ns := Run_eq sa E MC MS HX Q X _ _ _ _ _ _ _
def kX10_hoursUntil_0 : List Item := [(0, .iload_n 1, 1, 1, 1, 0, 0, 0, [], .null),
    (1, .aload_n 0, 1, 3, 0, 0, 0, 0, [], .null),
    (2, .getfield 19, 3, 26, 10, 1, 0, 0, [], .null),
    (5, .getfield 80, 3, 26, 8, 1, 0, 0, [], .null),
    (8, .getfield 84, 3, 24, 1, 11, 0, 0, [], .null),
    (11, .invokestatic 123, 3, 48, 97, 2, 1, 6, [], .null),
    (14, .iload_n 2, 1, 1, 2, 0, 0, 0, [], .null),
    (15, .iconst 0, 1, 0, 0, 0, 0, 0, [], .int 0),
    (16, .bipush 100, 2, 0, 0, 0, 0, 0, [], .int 100),
    (18, .invokestatic 50, 3, 48, 98, 3, 1, 6, [], .null),
    (21, .aload_n 0, 1, 3, 0, 0, 0, 0, [], .null),
    (22, .getfield 23, 3, 26, 10, 2, 0, 0, [], .null),
    (25, .aload_n 0, 1, 3, 0, 0, 0, 0, [], .null),
    (26, .getfield 19, 3, 26, 10, 1, 0, 0, [], .null),
    (29, .invokevirtual 68, 3, 48, 64, 2, 0, 0, [8], .null),
    (32, .iconst 0, 1, 0, 0, 0, 0, 0, [], .int 0),
    (33, .istore_n 3, 1, 4, 3, 0, 0, 0, [], .null),
    (34, .nop, 0, 60, 34, 0, 0, 0, [], .null)]
def kX10_hoursUntil_34 : List Item := [(34, .iload_n 3, 1, 1, 3, 0, 0, 0, [], .null),
    (35, .iload_n 2, 1, 1, 2, 0, 0, 0, [], .null),
    (36, .if_icmp .ge 33, 3, 21, 69, 3, 0, 0, [], .null),
    (39, .aload_n 0, 1, 3, 0, 0, 0, 0, [], .null),
    (40, .getfield 23, 3, 26, 10, 2, 0, 0, [], .null),
    (43, .getfield 80, 3, 26, 8, 1, 0, 0, [], .null),
    (46, .iload_n 1, 1, 1, 1, 0, 0, 0, [], .null),
    (47, .invokevirtual 185, 3, 48, 20, 2, 0, 0, [1], .null),
    (50, .ifCond .eq 5, 3, 20, 55, 0, 0, 0, [], .null),
    (53, .iload_n 3, 1, 1, 3, 0, 0, 0, [], .null),
    (54, .ireturn, 1, 56, 0, 0, 0, 0, [], .null)]
def kX10_hoursUntil_55 : List Item := [(55, .aload_n 0, 1, 3, 0, 0, 0, 0, [], .null),
    (56, .getfield 23, 3, 26, 10, 2, 0, 0, [], .null),
    (59, .invokevirtual 189, 3, 48, 69, 1, 0, 0, [8], .null),
    (62, .pop, 1, 19, 0, 0, 0, 0, [], .null),
    (63, .iinc 3 1, 3, 7, 3, 0, 0, 0, [], .int 1),
    (66, .goto (-32), 3, 22, 34, 0, 0, 0, [], .null)]
def kX10_hoursUntil_69 : List Item := [(69, .aload_n 0, 1, 3, 0, 0, 0, 0, [], .null),
    (70, .getfield 23, 3, 26, 10, 2, 0, 0, [], .null),
    (73, .getfield 80, 3, 26, 8, 1, 0, 0, [], .null),
    (76, .iload_n 1, 1, 1, 1, 0, 0, 0, [], .null),
    (77, .invokevirtual 185, 3, 48, 20, 2, 0, 0, [1], .null),
    (80, .ifCond .eq 7, 3, 20, 87, 0, 0, 0, [], .null),
    (83, .iload_n 2, 1, 1, 2, 0, 0, 0, [], .null),
    (84, .goto 4, 3, 22, 88, 0, 0, 0, [], .null)]
def kX10_hoursUntil_87 : List Item := [(87, .iconst (-1), 1, 0, 0, 0, 0, 0, [], .int (-1)),
    (88, .ireturn, 1, 56, 0, 0, 0, 0, [], .null)]
def kX10_hoursUntil_88 : List Item := [(88, .ireturn, 1, 56, 0, 0, 0, 0, [], .null)]
def kX10_hoursUntil : Code9 := [(0, kX10_hoursUntil_0), (34, kX10_hoursUntil_34), (55, kX10_hoursUntil_55), (69, kX10_hoursUntil_69), (87, kX10_hoursUntil_87), (88, kX10_hoursUntil_88)]
theorem rX10_hoursUntil_0 (sa : Nat → Nat) (E : Nat → Sem) (MC MS : Nat) (HX : Nat → Nat → Option Nat) (Q : Option Value → Mm → Prop) (X : Nat → Mm → Prop) (L : List Slot) (st : List Value) (M : Mm) (nc ns : Nat) : Run sa E MC MS HX Q X kX10_hoursUntil 0 L st M nc ns = bk sa E MC MS HX (Run sa E MC MS HX Q X kX10_hoursUntil) Q X kX10_hoursUntil_0 L st M nc ns := Run_eq sa E MC MS HX Q X _ _ _ _ _ _ _
theorem rX10_hoursUntil_34 (sa : Nat → Nat) (E : Nat → Sem) (MC MS : Nat) (HX : Nat → Nat → Option Nat) (Q : Option Value → Mm → Prop) (X : Nat → Mm → Prop) (L : List Slot) (st : List Value) (M : Mm) (nc ns : Nat) : Run sa E MC MS HX Q X kX10_hoursUntil 34 L st M nc ns = bk sa E MC MS HX (Run sa E MC MS HX Q X kX10_hoursUntil) Q X kX10_hoursUntil_34 L st M nc ns := Run_eq sa E MC MS HX Q X _ _ _ _ _ _ _
theorem rX10_hoursUntil_55 (sa : Nat → Nat) (E : Nat → Sem) (MC MS : Nat) (HX : Nat → Nat → Option Nat) (Q : Option Value → Mm → Prop) (X : Nat → Mm → Prop) (L : List Slot) (st : List Value) (M : Mm) (nc ns : Nat) : Run sa E MC MS HX Q X kX10_hoursUntil 55 L st M nc ns = bk sa E MC MS HX (Run sa E MC MS HX Q X kX10_hoursUntil) Q X kX10_hoursUntil_55 L st M nc ns := Run_eq sa E MC MS HX Q X _ _ _ _ _ _ _
theorem rX10_hoursUntil_69 (sa : Nat → Nat) (E : Nat → Sem) (MC MS : Nat) (HX : Nat → Nat → Option Nat) (Q : Option Value → Mm → Prop) (X : Nat → Mm → Prop) (L : List Slot) (st : List Value) (M : Mm) (nc ns : Nat) : Run sa E MC MS HX Q X kX10_hoursUntil 69 L st M nc ns = bk sa E MC MS HX (Run sa E MC MS HX Q X kX10_hoursUntil) Q X kX10_hoursUntil_69 L st M nc ns := Run_eq sa E MC MS HX Q X _ _ _ _ _ _ _
theorem rX10_hoursUntil_87 (sa : Nat → Nat) (E : Nat → Sem) (MC MS : Nat) (HX : Nat → Nat → Option Nat) (Q : Option Value → Mm → Prop) (X : Nat → Mm → Prop) (L : List Slot) (st : List Value) (M : Mm) (nc ns : Nat) : Run sa E MC MS HX Q X kX10_hoursUntil 87 L st M nc ns = bk sa E MC MS HX (Run sa E MC MS HX Q X kX10_hoursUntil) Q X kX10_hoursUntil_87 L st M nc ns := Run_eq sa E MC MS HX Q X _ _ _ _ _ _ _
theorem rX10_hoursUntil_88 (sa : Nat → Nat) (E : Nat → Sem) (MC MS : Nat) (HX : Nat → Nat → Option Nat) (Q : Option Value → Mm → Prop) (X : Nat → Mm → Prop) (L : List Slot) (st : List Value) (M : Mm) (nc ns : Nat) : Run sa E MC MS HX Q X kX10_hoursUntil 88 L st M nc ns = bk sa E MC MS HX (Run sa E MC MS HX Q X kX10_hoursUntil) Q X kX10_hoursUntil_88 L st M nc ns := Run_eq sa E MC MS HX Q X _ _ _ _ _ _ _
def kX10_inflow_0 : List Item := [(0, .iload_n 1, 1, 1, 1, 0, 0, 0, [], .null),
    (1, .iconst 0, 1, 0, 0, 0, 0, 0, [], .int 0),
    (2, .ldc 99, 2, 0, 0, 0, 0, 0, [], .int 100000),
    (4, .invokestatic 50, 3, 48, 98, 3, 1, 6, [], .null),
    (7, .aload_n 0, 1, 3, 0, 0, 0, 0, [], .null),
    (8, .getfield 19, 3, 26, 10, 1, 0, 0, [], .null),
    (11, .getfield 103, 3, 26, 8, 4, 0, 0, [], .null),
    (14, .iload_n 1, 1, 1, 1, 0, 0, 0, [], .null),
    (15, .aload_n 0, 1, 3, 0, 0, 0, 0, [], .null),
    (16, .getfield 19, 3, 26, 10, 1, 0, 0, [], .null),
    (19, .getfield 90, 3, 26, 8, 2, 0, 0, [], .null),
    (22, .iload_n 1, 1, 1, 1, 0, 0, 0, [], .null),
    (23, .invokevirtual 100, 3, 48, 46, 2, 0, 0, [6], .null),
    (26, .invokevirtual 107, 3, 48, 29, 3, 0, 0, [2], .null),
    (29, .ireturn, 1, 56, 0, 0, 0, 0, [], .null)]
def kX10_inflow : Code9 := [(0, kX10_inflow_0)]
theorem rX10_inflow_0 (sa : Nat → Nat) (E : Nat → Sem) (MC MS : Nat) (HX : Nat → Nat → Option Nat) (Q : Option Value → Mm → Prop) (X : Nat → Mm → Prop) (L : List Slot) (st : List Value) (M : Mm) (nc ns : Nat) : Run sa E MC MS HX Q X kX10_inflow 0 L st M nc ns = bk sa E MC MS HX (Run sa E MC MS HX Q X kX10_inflow) Q X kX10_inflow_0 L st M nc ns := Run_eq sa E MC MS HX Q X _ _ _ _ _ _ _
def kX10_init_0 : List Item := [(0, .aload_n 0, 1, 3, 0, 0, 0, 0, [], .null),
    (1, .invokespecial 1, 3, 47, 0, 0, 0, 0, [], .null),
    (4, .aload_n 0, 1, 3, 0, 0, 0, 0, [], .null),
    (5, .new 7, 3, 43, 7, 5, 0, 0, [], .null),
    (8, .dup, 1, 16, 0, 0, 0, 0, [], .null),
    (9, .invokespecial 9, 3, 48, 49, 1, 34, 2257, [101], .null),
    (12, .putfield 10, 3, 29, 10, 0, 0, 0, [], .null),
    (15, .aload_n 0, 1, 3, 0, 0, 0, 0, [], .null),
    (16, .new 16, 3, 43, 8, 7, 0, 0, [], .null),
    (19, .dup, 1, 16, 0, 0, 0, 0, [], .null),
    (20, .invokespecial 18, 3, 48, 68, 1, 31, 1343, [101], .null),
    (23, .putfield 19, 3, 29, 10, 1, 0, 0, [], .null),
    (26, .aload_n 0, 1, 3, 0, 0, 0, 0, [], .null),
    (27, .new 16, 3, 43, 8, 7, 0, 0, [], .null),
    (30, .dup, 1, 16, 0, 0, 0, 0, [], .null),
    (31, .invokespecial 18, 3, 48, 68, 1, 31, 1343, [101], .null),
    (34, .putfield 23, 3, 29, 10, 2, 0, 0, [], .null),
    (37, .aload_n 0, 1, 3, 0, 0, 0, 0, [], .null),
    (38, .new 26, 3, 43, 4, 3, 0, 0, [], .null),
    (41, .dup, 1, 16, 0, 0, 0, 0, [], .null),
    (42, .invokespecial 28, 3, 48, 37, 1, 257, 10808, [101], .null),
    (45, .putfield 29, 3, 29, 10, 3, 0, 0, [], .null),
    (48, .aload_n 0, 1, 3, 0, 0, 0, 0, [], .null),
    (49, .iconst (-1), 1, 0, 0, 0, 0, 0, [], .int (-1)),
    (50, .putfield 33, 3, 27, 10, 4, 0, 0, [], .null),
    (53, .return_, 1, 55, 0, 0, 0, 0, [], .null)]
def kX10_init : Code9 := [(0, kX10_init_0)]
theorem rX10_init_0 (sa : Nat → Nat) (E : Nat → Sem) (MC MS : Nat) (HX : Nat → Nat → Option Nat) (Q : Option Value → Mm → Prop) (X : Nat → Mm → Prop) (L : List Slot) (st : List Value) (M : Mm) (nc ns : Nat) : Run sa E MC MS HX Q X kX10_init 0 L st M nc ns = bk sa E MC MS HX (Run sa E MC MS HX Q X kX10_init) Q X kX10_init_0 L st M nc ns := Run_eq sa E MC MS HX Q X _ _ _ _ _ _ _
def kX10_isForced_0 : List Item := [(0, .iload_n 1, 1, 1, 1, 0, 0, 0, [], .null),
    (1, .aload_n 0, 1, 3, 0, 0, 0, 0, [], .null),
    (2, .getfield 19, 3, 26, 10, 1, 0, 0, [], .null),
    (5, .getfield 80, 3, 26, 8, 1, 0, 0, [], .null),
    (8, .getfield 84, 3, 24, 1, 11, 0, 0, [], .null),
    (11, .invokestatic 123, 3, 48, 97, 2, 1, 6, [], .null),
    (14, .aload_n 0, 1, 3, 0, 0, 0, 0, [], .null),
    (15, .getfield 19, 3, 26, 10, 1, 0, 0, [], .null),
    (18, .getfield 80, 3, 26, 8, 1, 0, 0, [], .null),
    (21, .getfield 142, 3, 26, 1, 10, 0, 0, [], .null),
    (24, .iload_n 1, 1, 1, 1, 0, 0, 0, [], .null),
    (25, .baload, 1, 31, 1, 0, 0, 0, [], .null),
    (26, .ireturn, 1, 58, 0, 0, 0, 0, [], .null)]
def kX10_isForced : Code9 := [(0, kX10_isForced_0)]
theorem rX10_isForced_0 (sa : Nat → Nat) (E : Nat → Sem) (MC MS : Nat) (HX : Nat → Nat → Option Nat) (Q : Option Value → Mm → Prop) (X : Nat → Mm → Prop) (L : List Slot) (st : List Value) (M : Mm) (nc ns : Nat) : Run sa E MC MS HX Q X kX10_isForced 0 L st M nc ns = bk sa E MC MS HX (Run sa E MC MS HX Q X kX10_isForced) Q X kX10_isForced_0 L st M nc ns := Run_eq sa E MC MS HX Q X _ _ _ _ _ _ _
def kX10_isOpen_0 : List Item := [(0, .iload_n 1, 1, 1, 1, 0, 0, 0, [], .null),
    (1, .aload_n 0, 1, 3, 0, 0, 0, 0, [], .null),
    (2, .getfield 19, 3, 26, 10, 1, 0, 0, [], .null),
    (5, .getfield 80, 3, 26, 8, 1, 0, 0, [], .null),
    (8, .getfield 84, 3, 24, 1, 11, 0, 0, [], .null),
    (11, .invokestatic 123, 3, 48, 97, 2, 1, 6, [], .null),
    (14, .aload_n 0, 1, 3, 0, 0, 0, 0, [], .null),
    (15, .getfield 19, 3, 26, 10, 1, 0, 0, [], .null),
    (18, .getfield 80, 3, 26, 8, 1, 0, 0, [], .null),
    (21, .iload_n 1, 1, 1, 1, 0, 0, 0, [], .null),
    (22, .aload_n 0, 1, 3, 0, 0, 0, 0, [], .null),
    (23, .getfield 19, 3, 26, 10, 1, 0, 0, [], .null),
    (26, .getfield 90, 3, 26, 8, 2, 0, 0, [], .null),
    (29, .aload_n 0, 1, 3, 0, 0, 0, 0, [], .null),
    (30, .getfield 19, 3, 26, 10, 1, 0, 0, [], .null),
    (33, .getfield 87, 3, 24, 8, 6, 0, 0, [], .null),
    (36, .invokevirtual 100, 3, 48, 46, 2, 0, 0, [6], .null),
    (39, .invokevirtual 138, 3, 48, 17, 3, 0, 0, [1], .null),
    (42, .ireturn, 1, 58, 0, 0, 0, 0, [], .null)]
def kX10_isOpen : Code9 := [(0, kX10_isOpen_0)]
theorem rX10_isOpen_0 (sa : Nat → Nat) (E : Nat → Sem) (MC MS : Nat) (HX : Nat → Nat → Option Nat) (Q : Option Value → Mm → Prop) (X : Nat → Mm → Prop) (L : List Slot) (st : List Value) (M : Mm) (nc ns : Nat) : Run sa E MC MS HX Q X kX10_isOpen 0 L st M nc ns = bk sa E MC MS HX (Run sa E MC MS HX Q X kX10_isOpen) Q X kX10_isOpen_0 L st M nc ns := Run_eq sa E MC MS HX Q X _ _ _ _ _ _ _
def kX10_load_0 : List Item := [(0, .iload_n 1, 1, 1, 1, 0, 0, 0, [], .null),
    (1, .iconst 0, 1, 0, 0, 0, 0, 0, [], .int 0),
    (2, .aload_n 0, 1, 3, 0, 0, 0, 0, [], .null),
    (3, .getfield 10, 3, 26, 10, 0, 0, 0, [], .null),
    (6, .getfield 37, 3, 26, 7, 0, 0, 0, [], .null),
    (9, .getfield 41, 3, 24, 9, 1, 0, 0, [], .null),
    (12, .invokestatic 50, 3, 48, 98, 3, 1, 6, [], .null),
    (15, .aload_n 0, 1, 3, 0, 0, 0, 0, [], .null),
    (16, .getfield 10, 3, 26, 10, 0, 0, 0, [], .null),
    (19, .iload_n 1, 1, 1, 1, 0, 0, 0, [], .null),
    (20, .invokevirtual 54, 3, 48, 57, 2, 0, 0, [7], .null),
    (23, .istore_n 2, 1, 4, 2, 0, 0, 0, [], .null),
    (24, .aload_n 0, 1, 3, 0, 0, 0, 0, [], .null),
    (25, .getfield 10, 3, 26, 10, 0, 0, 0, [], .null),
    (28, .getfield 37, 3, 26, 7, 0, 0, 0, [], .null),
    (31, .iconst 0, 1, 0, 0, 0, 0, 0, [], .int 0),
    (32, .putfield 41, 3, 27, 9, 1, 0, 0, [], .null),
    (35, .aload_n 0, 1, 3, 0, 0, 0, 0, [], .null),
    (36, .aload_n 0, 1, 3, 0, 0, 0, 0, [], .null),
    (37, .getfield 10, 3, 26, 10, 0, 0, 0, [], .null),
    (40, .getfield 58, 3, 24, 7, 2, 0, 0, [], .null),
    (43, .putfield 33, 3, 27, 10, 4, 0, 0, [], .null),
    (46, .iload_n 2, 1, 1, 2, 0, 0, 0, [], .null),
    (47, .ifCond .lt 28, 3, 20, 75, 2, 0, 0, [], .null),
    (50, .aload_n 0, 1, 3, 0, 0, 0, 0, [], .null),
    (51, .getfield 29, 3, 26, 10, 3, 0, 0, [], .null),
    (54, .aload_n 0, 1, 3, 0, 0, 0, 0, [], .null),
    (55, .getfield 19, 3, 26, 10, 1, 0, 0, [], .null),
    (58, .invokevirtual 61, 3, 48, 39, 2, 0, 0, [4], .null),
    (61, .aload_n 0, 1, 3, 0, 0, 0, 0, [], .null),
    (62, .getfield 19, 3, 26, 10, 1, 0, 0, [], .null),
    (65, .aload_n 0, 1, 3, 0, 0, 0, 0, [], .null),
    (66, .getfield 10, 3, 26, 10, 0, 0, 0, [], .null),
    (69, .getfield 65, 3, 26, 7, 1, 0, 0, [], .null),
    (72, .invokevirtual 68, 3, 48, 64, 2, 0, 0, [8], .null),
    (75, .iload_n 2, 1, 1, 2, 0, 0, 0, [], .null),
    (76, .ireturn, 1, 56, 0, 0, 0, 0, [], .null)]
def kX10_load_75 : List Item := [(75, .iload_n 2, 1, 1, 2, 0, 0, 0, [], .null),
    (76, .ireturn, 1, 56, 0, 0, 0, 0, [], .null)]
def kX10_load : Code9 := [(0, kX10_load_0), (75, kX10_load_75)]
theorem rX10_load_0 (sa : Nat → Nat) (E : Nat → Sem) (MC MS : Nat) (HX : Nat → Nat → Option Nat) (Q : Option Value → Mm → Prop) (X : Nat → Mm → Prop) (L : List Slot) (st : List Value) (M : Mm) (nc ns : Nat) : Run sa E MC MS HX Q X kX10_load 0 L st M nc ns = bk sa E MC MS HX (Run sa E MC MS HX Q X kX10_load) Q X kX10_load_0 L st M nc ns := Run_eq sa E MC MS HX Q X _ _ _ _ _ _ _
theorem rX10_load_75 (sa : Nat → Nat) (E : Nat → Sem) (MC MS : Nat) (HX : Nat → Nat → Option Nat) (Q : Option Value → Mm → Prop) (X : Nat → Mm → Prop) (L : List Slot) (st : List Value) (M : Mm) (nc ns : Nat) : Run sa E MC MS HX Q X kX10_load 75 L st M nc ns = bk sa E MC MS HX (Run sa E MC MS HX Q X kX10_load) Q X kX10_load_75 L st M nc ns := Run_eq sa E MC MS HX Q X _ _ _ _ _ _ _
def kX10_parent_0 : List Item := [(0, .iload_n 1, 1, 1, 1, 0, 0, 0, [], .null),
    (1, .aload_n 0, 1, 3, 0, 0, 0, 0, [], .null),
    (2, .getfield 19, 3, 26, 10, 1, 0, 0, [], .null),
    (5, .getfield 71, 3, 26, 8, 0, 0, 0, [], .null),
    (8, .getfield 75, 3, 24, 0, 8, 0, 0, [], .null),
    (11, .invokestatic 123, 3, 48, 97, 2, 1, 6, [], .null),
    (14, .aload_n 0, 1, 3, 0, 0, 0, 0, [], .null),
    (15, .getfield 19, 3, 26, 10, 1, 0, 0, [], .null),
    (18, .getfield 71, 3, 26, 8, 0, 0, 0, [], .null),
    (21, .getfield 127, 3, 26, 0, 0, 0, 0, [], .null),
    (24, .iload_n 1, 1, 1, 1, 0, 0, 0, [], .null),
    (25, .iaload, 1, 31, 0, 0, 0, 0, [], .null),
    (26, .ireturn, 1, 56, 0, 0, 0, 0, [], .null)]
def kX10_parent : Code9 := [(0, kX10_parent_0)]
theorem rX10_parent_0 (sa : Nat → Nat) (E : Nat → Sem) (MC MS : Nat) (HX : Nat → Nat → Option Nat) (Q : Option Value → Mm → Prop) (X : Nat → Mm → Prop) (L : List Slot) (st : List Value) (M : Mm) (nc ns : Nat) : Run sa E MC MS HX Q X kX10_parent 0 L st M nc ns = bk sa E MC MS HX (Run sa E MC MS HX Q X kX10_parent) Q X kX10_parent_0 L st M nc ns := Run_eq sa E MC MS HX Q X _ _ _ _ _ _ _
def kX10_requireIndex_0 : List Item := [(0, .iload_n 0, 1, 1, 0, 0, 0, 0, [], .null),
    (1, .ifCond .lt 8, 3, 20, 9, 2, 0, 0, [], .null),
    (4, .iload_n 0, 1, 1, 0, 0, 0, 0, [], .null),
    (5, .iload_n 1, 1, 1, 1, 0, 0, 0, [], .null),
    (6, .if_icmp .lt 11, 3, 21, 17, 2, 0, 0, [], .null),
    (9, .new 215, 3, 59, 1, 0, 0, 0, [], .null)]
def kX10_requireIndex_9 : List Item := [(9, .new 215, 3, 59, 1, 0, 0, 0, [], .null)]
def kX10_requireIndex_17 : List Item := [(17, .return_, 1, 55, 0, 0, 0, 0, [], .null)]
def kX10_requireIndex : Code9 := [(0, kX10_requireIndex_0), (9, kX10_requireIndex_9), (17, kX10_requireIndex_17)]
theorem rX10_requireIndex_0 (sa : Nat → Nat) (E : Nat → Sem) (MC MS : Nat) (HX : Nat → Nat → Option Nat) (Q : Option Value → Mm → Prop) (X : Nat → Mm → Prop) (L : List Slot) (st : List Value) (M : Mm) (nc ns : Nat) : Run sa E MC MS HX Q X kX10_requireIndex 0 L st M nc ns = bk sa E MC MS HX (Run sa E MC MS HX Q X kX10_requireIndex) Q X kX10_requireIndex_0 L st M nc ns := Run_eq sa E MC MS HX Q X _ _ _ _ _ _ _
theorem rX10_requireIndex_9 (sa : Nat → Nat) (E : Nat → Sem) (MC MS : Nat) (HX : Nat → Nat → Option Nat) (Q : Option Value → Mm → Prop) (X : Nat → Mm → Prop) (L : List Slot) (st : List Value) (M : Mm) (nc ns : Nat) : Run sa E MC MS HX Q X kX10_requireIndex 9 L st M nc ns = bk sa E MC MS HX (Run sa E MC MS HX Q X kX10_requireIndex) Q X kX10_requireIndex_9 L st M nc ns := Run_eq sa E MC MS HX Q X _ _ _ _ _ _ _
theorem rX10_requireIndex_17 (sa : Nat → Nat) (E : Nat → Sem) (MC MS : Nat) (HX : Nat → Nat → Option Nat) (Q : Option Value → Mm → Prop) (X : Nat → Mm → Prop) (L : List Slot) (st : List Value) (M : Mm) (nc ns : Nat) : Run sa E MC MS HX Q X kX10_requireIndex 17 L st M nc ns = bk sa E MC MS HX (Run sa E MC MS HX Q X kX10_requireIndex) Q X kX10_requireIndex_17 L st M nc ns := Run_eq sa E MC MS HX Q X _ _ _ _ _ _ _
def kX10_requireRange_0 : List Item := [(0, .iload_n 0, 1, 1, 0, 0, 0, 0, [], .null),
    (1, .iload_n 1, 1, 1, 1, 0, 0, 0, [], .null),
    (2, .if_icmp .lt 8, 3, 21, 10, 2, 0, 0, [], .null),
    (5, .iload_n 0, 1, 1, 0, 0, 0, 0, [], .null),
    (6, .iload_n 2, 1, 1, 2, 0, 0, 0, [], .null),
    (7, .if_icmp .le 11, 3, 21, 18, 5, 0, 0, [], .null),
    (10, .new 218, 3, 59, 0, 0, 0, 0, [], .null)]
def kX10_requireRange_10 : List Item := [(10, .new 218, 3, 59, 0, 0, 0, 0, [], .null)]
def kX10_requireRange_18 : List Item := [(18, .return_, 1, 55, 0, 0, 0, 0, [], .null)]
def kX10_requireRange : Code9 := [(0, kX10_requireRange_0), (10, kX10_requireRange_10), (18, kX10_requireRange_18)]
theorem rX10_requireRange_0 (sa : Nat → Nat) (E : Nat → Sem) (MC MS : Nat) (HX : Nat → Nat → Option Nat) (Q : Option Value → Mm → Prop) (X : Nat → Mm → Prop) (L : List Slot) (st : List Value) (M : Mm) (nc ns : Nat) : Run sa E MC MS HX Q X kX10_requireRange 0 L st M nc ns = bk sa E MC MS HX (Run sa E MC MS HX Q X kX10_requireRange) Q X kX10_requireRange_0 L st M nc ns := Run_eq sa E MC MS HX Q X _ _ _ _ _ _ _
theorem rX10_requireRange_10 (sa : Nat → Nat) (E : Nat → Sem) (MC MS : Nat) (HX : Nat → Nat → Option Nat) (Q : Option Value → Mm → Prop) (X : Nat → Mm → Prop) (L : List Slot) (st : List Value) (M : Mm) (nc ns : Nat) : Run sa E MC MS HX Q X kX10_requireRange 10 L st M nc ns = bk sa E MC MS HX (Run sa E MC MS HX Q X kX10_requireRange) Q X kX10_requireRange_10 L st M nc ns := Run_eq sa E MC MS HX Q X _ _ _ _ _ _ _
theorem rX10_requireRange_18 (sa : Nat → Nat) (E : Nat → Sem) (MC MS : Nat) (HX : Nat → Nat → Option Nat) (Q : Option Value → Mm → Prop) (X : Nat → Mm → Prop) (L : List Slot) (st : List Value) (M : Mm) (nc ns : Nat) : Run sa E MC MS HX Q X kX10_requireRange 18 L st M nc ns = bk sa E MC MS HX (Run sa E MC MS HX Q X kX10_requireRange) Q X kX10_requireRange_18 L st M nc ns := Run_eq sa E MC MS HX Q X _ _ _ _ _ _ _
def kX10_run_0 : List Item := [(0, .iload_n 1, 1, 1, 1, 0, 0, 0, [], .null),
    (1, .iconst 1, 1, 0, 0, 0, 0, 0, [], .int 1),
    (2, .bipush 100, 2, 0, 0, 0, 0, 0, [], .int 100),
    (4, .invokestatic 50, 3, 48, 98, 3, 1, 6, [], .null),
    (7, .aload_n 0, 1, 3, 0, 0, 0, 0, [], .null),
    (8, .getfield 19, 3, 26, 10, 1, 0, 0, [], .null),
    (11, .getfield 71, 3, 26, 8, 0, 0, 0, [], .null),
    (14, .getfield 75, 3, 24, 0, 8, 0, 0, [], .null),
    (17, .ifCond .eq 17, 3, 20, 34, 0, 0, 0, [], .null),
    (20, .aload_n 0, 1, 3, 0, 0, 0, 0, [], .null),
    (21, .getfield 19, 3, 26, 10, 1, 0, 0, [], .null),
    (24, .getfield 87, 3, 24, 8, 6, 0, 0, [], .null),
    (27, .iload_n 1, 1, 1, 1, 0, 0, 0, [], .null),
    (28, .iadd, 1, 8, 0, 0, 0, 0, [], .null),
    (29, .ldc 99, 2, 0, 0, 0, 0, 0, [], .int 100000),
    (31, .if_icmp .le 11, 3, 21, 42, 5, 0, 0, [], .null),
    (34, .new 195, 3, 59, 2, 0, 0, 0, [], .null)]
def kX10_run_34 : List Item := [(34, .new 195, 3, 59, 2, 0, 0, 0, [], .null)]
def kX10_run_42 : List Item := [(42, .aload_n 0, 1, 3, 0, 0, 0, 0, [], .null),
    (43, .getfield 29, 3, 26, 10, 3, 0, 0, [], .null),
    (46, .aload_n 0, 1, 3, 0, 0, 0, 0, [], .null),
    (47, .getfield 19, 3, 26, 10, 1, 0, 0, [], .null),
    (50, .invokevirtual 61, 3, 48, 39, 2, 0, 0, [4], .null),
    (53, .iconst 0, 1, 0, 0, 0, 0, 0, [], .int 0),
    (54, .istore_n 2, 1, 4, 2, 0, 0, 0, [], .null),
    (55, .iconst 0, 1, 0, 0, 0, 0, 0, [], .int 0),
    (56, .istore_n 3, 1, 4, 3, 0, 0, 0, [], .null),
    (57, .nop, 0, 60, 57, 0, 0, 0, [], .null)]
def kX10_run_57 : List Item := [(57, .iload_n 3, 1, 1, 3, 0, 0, 0, [], .null),
    (58, .iload_n 1, 1, 1, 1, 0, 0, 0, [], .null),
    (59, .if_icmp .ge 19, 3, 21, 78, 3, 0, 0, [], .null),
    (62, .iload_n 2, 1, 1, 2, 0, 0, 0, [], .null),
    (63, .aload_n 0, 1, 3, 0, 0, 0, 0, [], .null),
    (64, .getfield 19, 3, 26, 10, 1, 0, 0, [], .null),
    (67, .invokevirtual 189, 3, 48, 69, 1, 0, 0, [8], .null),
    (70, .iadd, 1, 8, 0, 0, 0, 0, [], .null),
    (71, .istore_n 2, 1, 4, 2, 0, 0, 0, [], .null),
    (72, .iinc 3 1, 3, 7, 3, 0, 0, 0, [], .int 1),
    (75, .goto (-18), 3, 22, 57, 0, 0, 0, [], .null)]
def kX10_run_78 : List Item := [(78, .iload_n 2, 1, 1, 2, 0, 0, 0, [], .null),
    (79, .ireturn, 1, 56, 0, 0, 0, 0, [], .null)]
def kX10_run : Code9 := [(0, kX10_run_0), (34, kX10_run_34), (42, kX10_run_42), (57, kX10_run_57), (78, kX10_run_78)]
theorem rX10_run_0 (sa : Nat → Nat) (E : Nat → Sem) (MC MS : Nat) (HX : Nat → Nat → Option Nat) (Q : Option Value → Mm → Prop) (X : Nat → Mm → Prop) (L : List Slot) (st : List Value) (M : Mm) (nc ns : Nat) : Run sa E MC MS HX Q X kX10_run 0 L st M nc ns = bk sa E MC MS HX (Run sa E MC MS HX Q X kX10_run) Q X kX10_run_0 L st M nc ns := Run_eq sa E MC MS HX Q X _ _ _ _ _ _ _
theorem rX10_run_34 (sa : Nat → Nat) (E : Nat → Sem) (MC MS : Nat) (HX : Nat → Nat → Option Nat) (Q : Option Value → Mm → Prop) (X : Nat → Mm → Prop) (L : List Slot) (st : List Value) (M : Mm) (nc ns : Nat) : Run sa E MC MS HX Q X kX10_run 34 L st M nc ns = bk sa E MC MS HX (Run sa E MC MS HX Q X kX10_run) Q X kX10_run_34 L st M nc ns := Run_eq sa E MC MS HX Q X _ _ _ _ _ _ _
theorem rX10_run_42 (sa : Nat → Nat) (E : Nat → Sem) (MC MS : Nat) (HX : Nat → Nat → Option Nat) (Q : Option Value → Mm → Prop) (X : Nat → Mm → Prop) (L : List Slot) (st : List Value) (M : Mm) (nc ns : Nat) : Run sa E MC MS HX Q X kX10_run 42 L st M nc ns = bk sa E MC MS HX (Run sa E MC MS HX Q X kX10_run) Q X kX10_run_42 L st M nc ns := Run_eq sa E MC MS HX Q X _ _ _ _ _ _ _
theorem rX10_run_57 (sa : Nat → Nat) (E : Nat → Sem) (MC MS : Nat) (HX : Nat → Nat → Option Nat) (Q : Option Value → Mm → Prop) (X : Nat → Mm → Prop) (L : List Slot) (st : List Value) (M : Mm) (nc ns : Nat) : Run sa E MC MS HX Q X kX10_run 57 L st M nc ns = bk sa E MC MS HX (Run sa E MC MS HX Q X kX10_run) Q X kX10_run_57 L st M nc ns := Run_eq sa E MC MS HX Q X _ _ _ _ _ _ _
theorem rX10_run_78 (sa : Nat → Nat) (E : Nat → Sem) (MC MS : Nat) (HX : Nat → Nat → Option Nat) (Q : Option Value → Mm → Prop) (X : Nat → Mm → Prop) (L : List Slot) (st : List Value) (M : Mm) (nc ns : Nat) : Run sa E MC MS HX Q X kX10_run 78 L st M nc ns = bk sa E MC MS HX (Run sa E MC MS HX Q X kX10_run) Q X kX10_run_78 L st M nc ns := Run_eq sa E MC MS HX Q X _ _ _ _ _ _ _
def kX10_stolen_0 : List Item := [(0, .iload_n 1, 1, 1, 1, 0, 0, 0, [], .null),
    (1, .aload_n 0, 1, 3, 0, 0, 0, 0, [], .null),
    (2, .getfield 19, 3, 26, 10, 1, 0, 0, [], .null),
    (5, .getfield 80, 3, 26, 8, 1, 0, 0, [], .null),
    (8, .getfield 84, 3, 24, 1, 11, 0, 0, [], .null),
    (11, .invokestatic 123, 3, 48, 97, 2, 1, 6, [], .null),
    (14, .aload_n 0, 1, 3, 0, 0, 0, 0, [], .null),
    (15, .getfield 19, 3, 26, 10, 1, 0, 0, [], .null),
    (18, .getfield 80, 3, 26, 8, 1, 0, 0, [], .null),
    (21, .getfield 152, 3, 26, 1, 9, 0, 0, [], .null),
    (24, .iload_n 1, 1, 1, 1, 0, 0, 0, [], .null),
    (25, .iaload, 1, 31, 0, 0, 0, 0, [], .null),
    (26, .ireturn, 1, 56, 0, 0, 0, 0, [], .null)]
def kX10_stolen : Code9 := [(0, kX10_stolen_0)]
theorem rX10_stolen_0 (sa : Nat → Nat) (E : Nat → Sem) (MC MS : Nat) (HX : Nat → Nat → Option Nat) (Q : Option Value → Mm → Prop) (X : Nat → Mm → Prop) (L : List Slot) (st : List Value) (M : Mm) (nc ns : Nat) : Run sa E MC MS HX Q X kX10_stolen 0 L st M nc ns = bk sa E MC MS HX (Run sa E MC MS HX Q X kX10_stolen) Q X kX10_stolen_0 L st M nc ns := Run_eq sa E MC MS HX Q X _ _ _ _ _ _ _
def kX10_suspect_0 : List Item := [(0, .iload_n 1, 1, 1, 1, 0, 0, 0, [], .null),
    (1, .aload_n 0, 1, 3, 0, 0, 0, 0, [], .null),
    (2, .getfield 19, 3, 26, 10, 1, 0, 0, [], .null),
    (5, .getfield 71, 3, 26, 8, 0, 0, 0, [], .null),
    (8, .getfield 75, 3, 24, 0, 8, 0, 0, [], .null),
    (11, .invokestatic 123, 3, 48, 97, 2, 1, 6, [], .null),
    (14, .iload_n 2, 1, 1, 2, 0, 0, 0, [], .null),
    (15, .iconst 1, 1, 0, 0, 0, 0, 0, [], .int 1),
    (16, .bipush 50, 2, 0, 0, 0, 0, 0, [], .int 50),
    (18, .invokestatic 50, 3, 48, 98, 3, 1, 6, [], .null),
    (21, .aload_n 0, 1, 3, 0, 0, 0, 0, [], .null),
    (22, .iload_n 1, 1, 1, 1, 0, 0, 0, [], .null),
    (23, .iload_n 2, 1, 1, 2, 0, 0, 0, [], .null),
    (24, .iconst (-1), 1, 0, 0, 0, 0, 0, [], .int (-1)),
    (25, .invokevirtual 192, 3, 48, 88, 4, 0, 0, [10], .null),
    (28, .iload_n 3, 1, 1, 3, 0, 0, 0, [], .null),
    (29, .if_icmp .ne 6, 3, 21, 35, 1, 0, 0, [], .null),
    (32, .bipush (-2), 2, 0, 0, 0, 0, 0, [], .int (-2)),
    (34, .ireturn, 1, 56, 0, 0, 0, 0, [], .null)]
def kX10_suspect_35 : List Item := [(35, .iconst 0, 1, 0, 0, 0, 0, 0, [], .int 0),
    (36, .istore 4, 2, 4, 4, 0, 0, 0, [], .null),
    (38, .nop, 0, 60, 38, 0, 0, 0, [], .null)]
def kX10_suspect_38 : List Item := [(38, .iload 4, 2, 1, 4, 0, 0, 0, [], .null),
    (40, .aload_n 0, 1, 3, 0, 0, 0, 0, [], .null),
    (41, .getfield 19, 3, 26, 10, 1, 0, 0, [], .null),
    (44, .getfield 80, 3, 26, 8, 1, 0, 0, [], .null),
    (47, .getfield 84, 3, 24, 1, 11, 0, 0, [], .null),
    (50, .if_icmp .ge 40, 3, 21, 90, 3, 0, 0, [], .null),
    (53, .aload_n 0, 1, 3, 0, 0, 0, 0, [], .null),
    (54, .getfield 19, 3, 26, 10, 1, 0, 0, [], .null),
    (57, .getfield 80, 3, 26, 8, 1, 0, 0, [], .null),
    (60, .getfield 142, 3, 26, 1, 10, 0, 0, [], .null),
    (63, .iload 4, 2, 1, 4, 0, 0, 0, [], .null),
    (65, .baload, 1, 31, 1, 0, 0, 0, [], .null),
    (66, .ifCond .ne 18, 3, 20, 84, 1, 0, 0, [], .null),
    (69, .aload_n 0, 1, 3, 0, 0, 0, 0, [], .null),
    (70, .iload_n 1, 1, 1, 1, 0, 0, 0, [], .null),
    (71, .iload_n 2, 1, 1, 2, 0, 0, 0, [], .null),
    (72, .iload 4, 2, 1, 4, 0, 0, 0, [], .null),
    (74, .invokevirtual 192, 3, 48, 88, 4, 0, 0, [10], .null),
    (77, .iload_n 3, 1, 1, 3, 0, 0, 0, [], .null),
    (78, .if_icmp .ne 6, 3, 21, 84, 1, 0, 0, [], .null),
    (81, .iload 4, 2, 1, 4, 0, 0, 0, [], .null),
    (83, .ireturn, 1, 56, 0, 0, 0, 0, [], .null)]
def kX10_suspect_84 : List Item := [(84, .iinc 4 1, 3, 7, 4, 0, 0, 0, [], .int 1),
    (87, .goto (-49), 3, 22, 38, 0, 0, 0, [], .null)]
def kX10_suspect_90 : List Item := [(90, .iconst (-1), 1, 0, 0, 0, 0, 0, [], .int (-1)),
    (91, .ireturn, 1, 56, 0, 0, 0, 0, [], .null)]
def kX10_suspect : Code9 := [(0, kX10_suspect_0), (35, kX10_suspect_35), (38, kX10_suspect_38), (84, kX10_suspect_84), (90, kX10_suspect_90)]
theorem rX10_suspect_0 (sa : Nat → Nat) (E : Nat → Sem) (MC MS : Nat) (HX : Nat → Nat → Option Nat) (Q : Option Value → Mm → Prop) (X : Nat → Mm → Prop) (L : List Slot) (st : List Value) (M : Mm) (nc ns : Nat) : Run sa E MC MS HX Q X kX10_suspect 0 L st M nc ns = bk sa E MC MS HX (Run sa E MC MS HX Q X kX10_suspect) Q X kX10_suspect_0 L st M nc ns := Run_eq sa E MC MS HX Q X _ _ _ _ _ _ _
theorem rX10_suspect_35 (sa : Nat → Nat) (E : Nat → Sem) (MC MS : Nat) (HX : Nat → Nat → Option Nat) (Q : Option Value → Mm → Prop) (X : Nat → Mm → Prop) (L : List Slot) (st : List Value) (M : Mm) (nc ns : Nat) : Run sa E MC MS HX Q X kX10_suspect 35 L st M nc ns = bk sa E MC MS HX (Run sa E MC MS HX Q X kX10_suspect) Q X kX10_suspect_35 L st M nc ns := Run_eq sa E MC MS HX Q X _ _ _ _ _ _ _
theorem rX10_suspect_38 (sa : Nat → Nat) (E : Nat → Sem) (MC MS : Nat) (HX : Nat → Nat → Option Nat) (Q : Option Value → Mm → Prop) (X : Nat → Mm → Prop) (L : List Slot) (st : List Value) (M : Mm) (nc ns : Nat) : Run sa E MC MS HX Q X kX10_suspect 38 L st M nc ns = bk sa E MC MS HX (Run sa E MC MS HX Q X kX10_suspect) Q X kX10_suspect_38 L st M nc ns := Run_eq sa E MC MS HX Q X _ _ _ _ _ _ _
theorem rX10_suspect_84 (sa : Nat → Nat) (E : Nat → Sem) (MC MS : Nat) (HX : Nat → Nat → Option Nat) (Q : Option Value → Mm → Prop) (X : Nat → Mm → Prop) (L : List Slot) (st : List Value) (M : Mm) (nc ns : Nat) : Run sa E MC MS HX Q X kX10_suspect 84 L st M nc ns = bk sa E MC MS HX (Run sa E MC MS HX Q X kX10_suspect) Q X kX10_suspect_84 L st M nc ns := Run_eq sa E MC MS HX Q X _ _ _ _ _ _ _
theorem rX10_suspect_90 (sa : Nat → Nat) (E : Nat → Sem) (MC MS : Nat) (HX : Nat → Nat → Option Nat) (Q : Option Value → Mm → Prop) (X : Nat → Mm → Prop) (L : List Slot) (st : List Value) (M : Mm) (nc ns : Nat) : Run sa E MC MS HX Q X kX10_suspect 90 L st M nc ns = bk sa E MC MS HX (Run sa E MC MS HX Q X kX10_suspect) Q X kX10_suspect_90 L st M nc ns := Run_eq sa E MC MS HX Q X _ _ _ _ _ _ _
def kX10_swapTurns_0 : List Item := [(0, .iload_n 1, 1, 1, 1, 0, 0, 0, [], .null),
    (1, .aload_n 0, 1, 3, 0, 0, 0, 0, [], .null),
    (2, .getfield 19, 3, 26, 10, 1, 0, 0, [], .null),
    (5, .getfield 90, 3, 26, 8, 2, 0, 0, [], .null),
    (8, .getfield 201, 3, 24, 6, 2, 0, 0, [], .null),
    (11, .invokestatic 123, 3, 48, 97, 2, 1, 6, [], .null),
    (14, .iload_n 2, 1, 1, 2, 0, 0, 0, [], .null),
    (15, .aload_n 0, 1, 3, 0, 0, 0, 0, [], .null),
    (16, .getfield 19, 3, 26, 10, 1, 0, 0, [], .null),
    (19, .getfield 90, 3, 26, 8, 2, 0, 0, [], .null),
    (22, .getfield 201, 3, 24, 6, 2, 0, 0, [], .null),
    (25, .invokestatic 123, 3, 48, 97, 2, 1, 6, [], .null),
    (28, .aload_n 0, 1, 3, 0, 0, 0, 0, [], .null),
    (29, .getfield 29, 3, 26, 10, 3, 0, 0, [], .null),
    (32, .aload_n 0, 1, 3, 0, 0, 0, 0, [], .null),
    (33, .getfield 19, 3, 26, 10, 1, 0, 0, [], .null),
    (36, .invokevirtual 61, 3, 48, 39, 2, 0, 0, [4], .null),
    (39, .aload_n 0, 1, 3, 0, 0, 0, 0, [], .null),
    (40, .getfield 19, 3, 26, 10, 1, 0, 0, [], .null),
    (43, .getfield 90, 3, 26, 8, 2, 0, 0, [], .null),
    (46, .iload_n 1, 1, 1, 1, 0, 0, 0, [], .null),
    (47, .iload_n 2, 1, 1, 2, 0, 0, 0, [], .null),
    (48, .invokevirtual 202, 3, 48, 44, 3, 0, 0, [6], .null),
    (51, .aload_n 0, 1, 3, 0, 0, 0, 0, [], .null),
    (52, .getfield 19, 3, 26, 10, 1, 0, 0, [], .null),
    (55, .getfield 90, 3, 26, 8, 2, 0, 0, [], .null),
    (58, .aload_n 0, 1, 3, 0, 0, 0, 0, [], .null),
    (59, .getfield 19, 3, 26, 10, 1, 0, 0, [], .null),
    (62, .getfield 87, 3, 24, 8, 6, 0, 0, [], .null),
    (65, .invokevirtual 100, 3, 48, 46, 2, 0, 0, [6], .null),
    (68, .ireturn, 1, 56, 0, 0, 0, 0, [], .null)]
def kX10_swapTurns : Code9 := [(0, kX10_swapTurns_0)]
theorem rX10_swapTurns_0 (sa : Nat → Nat) (E : Nat → Sem) (MC MS : Nat) (HX : Nat → Nat → Option Nat) (Q : Option Value → Mm → Prop) (X : Nat → Mm → Prop) (L : List Slot) (st : List Value) (M : Mm) (nc ns : Nat) : Run sa E MC MS HX Q X kX10_swapTurns 0 L st M nc ns = bk sa E MC MS HX (Run sa E MC MS HX Q X kX10_swapTurns) Q X kX10_swapTurns_0 L st M nc ns := Run_eq sa E MC MS HX Q X _ _ _ _ _ _ _
def kX10_taken_0 : List Item := [(0, .iload_n 1, 1, 1, 1, 0, 0, 0, [], .null),
    (1, .aload_n 0, 1, 3, 0, 0, 0, 0, [], .null),
    (2, .getfield 19, 3, 26, 10, 1, 0, 0, [], .null),
    (5, .getfield 80, 3, 26, 8, 1, 0, 0, [], .null),
    (8, .getfield 84, 3, 24, 1, 11, 0, 0, [], .null),
    (11, .invokestatic 123, 3, 48, 97, 2, 1, 6, [], .null),
    (14, .aload_n 0, 1, 3, 0, 0, 0, 0, [], .null),
    (15, .getfield 19, 3, 26, 10, 1, 0, 0, [], .null),
    (18, .getfield 80, 3, 26, 8, 1, 0, 0, [], .null),
    (21, .getfield 149, 3, 26, 1, 8, 0, 0, [], .null),
    (24, .iload_n 1, 1, 1, 1, 0, 0, 0, [], .null),
    (25, .iaload, 1, 31, 0, 0, 0, 0, [], .null),
    (26, .ireturn, 1, 56, 0, 0, 0, 0, [], .null)]
def kX10_taken : Code9 := [(0, kX10_taken_0)]
theorem rX10_taken_0 (sa : Nat → Nat) (E : Nat → Sem) (MC MS : Nat) (HX : Nat → Nat → Option Nat) (Q : Option Value → Mm → Prop) (X : Nat → Mm → Prop) (L : List Slot) (st : List Value) (M : Mm) (nc ns : Nat) : Run sa E MC MS HX Q X kX10_taken 0 L st M nc ns = bk sa E MC MS HX (Run sa E MC MS HX Q X kX10_taken) Q X kX10_taken_0 L st M nc ns := Run_eq sa E MC MS HX Q X _ _ _ _ _ _ _
def kX10_total_0 : List Item := [(0, .iload_n 1, 1, 1, 1, 0, 0, 0, [], .null),
    (1, .iconst 0, 1, 0, 0, 0, 0, 0, [], .int 0),
    (2, .iconst 5, 1, 0, 0, 0, 0, 0, [], .int 5),
    (3, .invokestatic 50, 3, 48, 98, 3, 1, 6, [], .null),
    (6, .iload_n 1, 1, 1, 1, 0, 0, 0, [], .null),
    (7, .tableswitch 88 0 4 #[33, 44, 55, 66, 77], 33, 23, 95, 0, 0, 0, [40, 51, 62, 73, 84], .int (0))]
def kX10_total_40 : List Item := [(40, .aload_n 0, 1, 3, 0, 0, 0, 0, [], .null),
    (41, .getfield 19, 3, 26, 10, 1, 0, 0, [], .null),
    (44, .getfield 155, 3, 26, 8, 5, 0, 0, [], .null),
    (47, .getfield 164, 3, 25, 5, 1, 0, 0, [], .null),
    (50, .lreturn, 1, 57, 0, 0, 0, 0, [], .null)]
def kX10_total_51 : List Item := [(51, .aload_n 0, 1, 3, 0, 0, 0, 0, [], .null),
    (52, .getfield 19, 3, 26, 10, 1, 0, 0, [], .null),
    (55, .getfield 71, 3, 26, 8, 0, 0, 0, [], .null),
    (58, .invokevirtual 168, 3, 48, 12, 1, 0, 0, [0], .null),
    (61, .lreturn, 1, 57, 0, 0, 0, 0, [], .null)]
def kX10_total_62 : List Item := [(62, .aload_n 0, 1, 3, 0, 0, 0, 0, [], .null),
    (63, .getfield 19, 3, 26, 10, 1, 0, 0, [], .null),
    (66, .getfield 80, 3, 26, 8, 1, 0, 0, [], .null),
    (69, .invokevirtual 172, 3, 48, 24, 1, 0, 0, [1], .null),
    (72, .lreturn, 1, 57, 0, 0, 0, 0, [], .null)]
def kX10_total_73 : List Item := [(73, .aload_n 0, 1, 3, 0, 0, 0, 0, [], .null),
    (74, .getfield 19, 3, 26, 10, 1, 0, 0, [], .null),
    (77, .getfield 155, 3, 26, 8, 5, 0, 0, [], .null),
    (80, .getfield 173, 3, 25, 5, 2, 0, 0, [], .null),
    (83, .lreturn, 1, 57, 0, 0, 0, 0, [], .null)]
def kX10_total_84 : List Item := [(84, .aload_n 0, 1, 3, 0, 0, 0, 0, [], .null),
    (85, .getfield 19, 3, 26, 10, 1, 0, 0, [], .null),
    (88, .getfield 155, 3, 26, 8, 5, 0, 0, [], .null),
    (91, .getfield 176, 3, 25, 5, 3, 0, 0, [], .null),
    (94, .lreturn, 1, 57, 0, 0, 0, 0, [], .null)]
def kX10_total_95 : List Item := [(95, .aload_n 0, 1, 3, 0, 0, 0, 0, [], .null),
    (96, .getfield 19, 3, 26, 10, 1, 0, 0, [], .null),
    (99, .getfield 155, 3, 26, 8, 5, 0, 0, [], .null),
    (102, .getfield 179, 3, 25, 5, 4, 0, 0, [], .null),
    (105, .lreturn, 1, 57, 0, 0, 0, 0, [], .null)]
def kX10_total : Code9 := [(0, kX10_total_0), (40, kX10_total_40), (51, kX10_total_51), (62, kX10_total_62), (73, kX10_total_73), (84, kX10_total_84), (95, kX10_total_95)]
theorem rX10_total_0 (sa : Nat → Nat) (E : Nat → Sem) (MC MS : Nat) (HX : Nat → Nat → Option Nat) (Q : Option Value → Mm → Prop) (X : Nat → Mm → Prop) (L : List Slot) (st : List Value) (M : Mm) (nc ns : Nat) : Run sa E MC MS HX Q X kX10_total 0 L st M nc ns = bk sa E MC MS HX (Run sa E MC MS HX Q X kX10_total) Q X kX10_total_0 L st M nc ns := Run_eq sa E MC MS HX Q X _ _ _ _ _ _ _
theorem rX10_total_40 (sa : Nat → Nat) (E : Nat → Sem) (MC MS : Nat) (HX : Nat → Nat → Option Nat) (Q : Option Value → Mm → Prop) (X : Nat → Mm → Prop) (L : List Slot) (st : List Value) (M : Mm) (nc ns : Nat) : Run sa E MC MS HX Q X kX10_total 40 L st M nc ns = bk sa E MC MS HX (Run sa E MC MS HX Q X kX10_total) Q X kX10_total_40 L st M nc ns := Run_eq sa E MC MS HX Q X _ _ _ _ _ _ _
theorem rX10_total_51 (sa : Nat → Nat) (E : Nat → Sem) (MC MS : Nat) (HX : Nat → Nat → Option Nat) (Q : Option Value → Mm → Prop) (X : Nat → Mm → Prop) (L : List Slot) (st : List Value) (M : Mm) (nc ns : Nat) : Run sa E MC MS HX Q X kX10_total 51 L st M nc ns = bk sa E MC MS HX (Run sa E MC MS HX Q X kX10_total) Q X kX10_total_51 L st M nc ns := Run_eq sa E MC MS HX Q X _ _ _ _ _ _ _
theorem rX10_total_62 (sa : Nat → Nat) (E : Nat → Sem) (MC MS : Nat) (HX : Nat → Nat → Option Nat) (Q : Option Value → Mm → Prop) (X : Nat → Mm → Prop) (L : List Slot) (st : List Value) (M : Mm) (nc ns : Nat) : Run sa E MC MS HX Q X kX10_total 62 L st M nc ns = bk sa E MC MS HX (Run sa E MC MS HX Q X kX10_total) Q X kX10_total_62 L st M nc ns := Run_eq sa E MC MS HX Q X _ _ _ _ _ _ _
theorem rX10_total_73 (sa : Nat → Nat) (E : Nat → Sem) (MC MS : Nat) (HX : Nat → Nat → Option Nat) (Q : Option Value → Mm → Prop) (X : Nat → Mm → Prop) (L : List Slot) (st : List Value) (M : Mm) (nc ns : Nat) : Run sa E MC MS HX Q X kX10_total 73 L st M nc ns = bk sa E MC MS HX (Run sa E MC MS HX Q X kX10_total) Q X kX10_total_73 L st M nc ns := Run_eq sa E MC MS HX Q X _ _ _ _ _ _ _
theorem rX10_total_84 (sa : Nat → Nat) (E : Nat → Sem) (MC MS : Nat) (HX : Nat → Nat → Option Nat) (Q : Option Value → Mm → Prop) (X : Nat → Mm → Prop) (L : List Slot) (st : List Value) (M : Mm) (nc ns : Nat) : Run sa E MC MS HX Q X kX10_total 84 L st M nc ns = bk sa E MC MS HX (Run sa E MC MS HX Q X kX10_total) Q X kX10_total_84 L st M nc ns := Run_eq sa E MC MS HX Q X _ _ _ _ _ _ _
theorem rX10_total_95 (sa : Nat → Nat) (E : Nat → Sem) (MC MS : Nat) (HX : Nat → Nat → Option Nat) (Q : Option Value → Mm → Prop) (X : Nat → Mm → Prop) (L : List Slot) (st : List Value) (M : Mm) (nc ns : Nat) : Run sa E MC MS HX Q X kX10_total 95 L st M nc ns = bk sa E MC MS HX (Run sa E MC MS HX Q X kX10_total) Q X kX10_total_95 L st M nc ns := Run_eq sa E MC MS HX Q X _ _ _ _ _ _ _
def kX10_turnAt_0 : List Item := [(0, .iload_n 1, 1, 1, 1, 0, 0, 0, [], .null),
    (1, .iconst 0, 1, 0, 0, 0, 0, 0, [], .int 0),
    (2, .ldc 99, 2, 0, 0, 0, 0, 0, [], .int 100000),
    (4, .invokestatic 50, 3, 48, 98, 3, 1, 6, [], .null),
    (7, .aload_n 0, 1, 3, 0, 0, 0, 0, [], .null),
    (8, .getfield 19, 3, 26, 10, 1, 0, 0, [], .null),
    (11, .getfield 90, 3, 26, 8, 2, 0, 0, [], .null),
    (14, .iload_n 1, 1, 1, 1, 0, 0, 0, [], .null),
    (15, .invokevirtual 100, 3, 48, 46, 2, 0, 0, [6], .null),
    (18, .ireturn, 1, 56, 0, 0, 0, 0, [], .null)]
def kX10_turnAt : Code9 := [(0, kX10_turnAt_0)]
theorem rX10_turnAt_0 (sa : Nat → Nat) (E : Nat → Sem) (MC MS : Nat) (HX : Nat → Nat → Option Nat) (Q : Option Value → Mm → Prop) (X : Nat → Mm → Prop) (L : List Slot) (st : List Value) (M : Mm) (nc ns : Nat) : Run sa E MC MS HX Q X kX10_turnAt 0 L st M nc ns = bk sa E MC MS HX (Run sa E MC MS HX Q X kX10_turnAt) Q X kX10_turnAt_0 L st M nc ns := Run_eq sa E MC MS HX Q X _ _ _ _ _ _ _
def kX10_undo_0 : List Item := [(0, .aload_n 0, 1, 3, 0, 0, 0, 0, [], .null),
    (1, .getfield 29, 3, 26, 10, 3, 0, 0, [], .null),
    (4, .aload_n 0, 1, 3, 0, 0, 0, 0, [], .null),
    (5, .getfield 19, 3, 26, 10, 1, 0, 0, [], .null),
    (8, .invokevirtual 205, 3, 48, 38, 2, 0, 0, [4], .null),
    (11, .ifCond .eq 13, 3, 20, 24, 0, 0, 0, [], .null),
    (14, .aload_n 0, 1, 3, 0, 0, 0, 0, [], .null),
    (15, .getfield 29, 3, 26, 10, 3, 0, 0, [], .null),
    (18, .getfield 209, 3, 24, 4, 2, 0, 0, [], .null),
    (21, .goto 4, 3, 22, 25, 0, 0, 0, [], .null)]
def kX10_undo_24 : List Item := [(24, .iconst (-1), 1, 0, 0, 0, 0, 0, [], .int (-1)),
    (25, .ireturn, 1, 56, 0, 0, 0, 0, [], .null)]
def kX10_undo_25 : List Item := [(25, .ireturn, 1, 56, 0, 0, 0, 0, [], .null)]
def kX10_undo : Code9 := [(0, kX10_undo_0), (24, kX10_undo_24), (25, kX10_undo_25)]
theorem rX10_undo_0 (sa : Nat → Nat) (E : Nat → Sem) (MC MS : Nat) (HX : Nat → Nat → Option Nat) (Q : Option Value → Mm → Prop) (X : Nat → Mm → Prop) (L : List Slot) (st : List Value) (M : Mm) (nc ns : Nat) : Run sa E MC MS HX Q X kX10_undo 0 L st M nc ns = bk sa E MC MS HX (Run sa E MC MS HX Q X kX10_undo) Q X kX10_undo_0 L st M nc ns := Run_eq sa E MC MS HX Q X _ _ _ _ _ _ _
theorem rX10_undo_24 (sa : Nat → Nat) (E : Nat → Sem) (MC MS : Nat) (HX : Nat → Nat → Option Nat) (Q : Option Value → Mm → Prop) (X : Nat → Mm → Prop) (L : List Slot) (st : List Value) (M : Mm) (nc ns : Nat) : Run sa E MC MS HX Q X kX10_undo 24 L st M nc ns = bk sa E MC MS HX (Run sa E MC MS HX Q X kX10_undo) Q X kX10_undo_24 L st M nc ns := Run_eq sa E MC MS HX Q X _ _ _ _ _ _ _
theorem rX10_undo_25 (sa : Nat → Nat) (E : Nat → Sem) (MC MS : Nat) (HX : Nat → Nat → Option Nat) (Q : Option Value → Mm → Prop) (X : Nat → Mm → Prop) (L : List Slot) (st : List Value) (M : Mm) (nc ns : Nat) : Run sa E MC MS HX Q X kX10_undo 25 L st M nc ns = bk sa E MC MS HX (Run sa E MC MS HX Q X kX10_undo) Q X kX10_undo_25 L st M nc ns := Run_eq sa E MC MS HX Q X _ _ _ _ _ _ _
def kX10_water_0 : List Item := [(0, .iload_n 1, 1, 1, 1, 0, 0, 0, [], .null),
    (1, .aload_n 0, 1, 3, 0, 0, 0, 0, [], .null),
    (2, .getfield 19, 3, 26, 10, 1, 0, 0, [], .null),
    (5, .getfield 80, 3, 26, 8, 1, 0, 0, [], .null),
    (8, .getfield 84, 3, 24, 1, 11, 0, 0, [], .null),
    (11, .invokestatic 123, 3, 48, 97, 2, 1, 6, [], .null),
    (14, .aload_n 0, 1, 3, 0, 0, 0, 0, [], .null),
    (15, .getfield 19, 3, 26, 10, 1, 0, 0, [], .null),
    (18, .getfield 80, 3, 26, 8, 1, 0, 0, [], .null),
    (21, .getfield 146, 3, 26, 1, 7, 0, 0, [], .null),
    (24, .iload_n 1, 1, 1, 1, 0, 0, 0, [], .null),
    (25, .iaload, 1, 31, 0, 0, 0, 0, [], .null),
    (26, .ireturn, 1, 56, 0, 0, 0, 0, [], .null)]
def kX10_water : Code9 := [(0, kX10_water_0)]
theorem rX10_water_0 (sa : Nat → Nat) (E : Nat → Sem) (MC MS : Nat) (HX : Nat → Nat → Option Nat) (Q : Option Value → Mm → Prop) (X : Nat → Mm → Prop) (L : List Slot) (st : List Value) (M : Mm) (nc ns : Nat) : Run sa E MC MS HX Q X kX10_water 0 L st M nc ns = bk sa E MC MS HX (Run sa E MC MS HX Q X kX10_water) Q X kX10_water_0 L st M nc ns := Run_eq sa E MC MS HX Q X _ _ _ _ _ _ _
def kX10_waterIn_0 : List Item := [(0, .iload_n 1, 1, 1, 1, 0, 0, 0, [], .null),
    (1, .aload_n 0, 1, 3, 0, 0, 0, 0, [], .null),
    (2, .getfield 19, 3, 26, 10, 1, 0, 0, [], .null),
    (5, .getfield 71, 3, 26, 8, 0, 0, 0, [], .null),
    (8, .getfield 75, 3, 24, 0, 8, 0, 0, [], .null),
    (11, .invokestatic 123, 3, 48, 97, 2, 1, 6, [], .null),
    (14, .iload_n 2, 1, 1, 2, 0, 0, 0, [], .null),
    (15, .iconst 0, 1, 0, 0, 0, 0, 0, [], .int 0),
    (16, .iconst 5, 1, 0, 0, 0, 0, 0, [], .int 5),
    (17, .invokestatic 50, 3, 48, 98, 3, 1, 6, [], .null),
    (20, .aload_n 0, 1, 3, 0, 0, 0, 0, [], .null),
    (21, .getfield 19, 3, 26, 10, 1, 0, 0, [], .null),
    (24, .getfield 71, 3, 26, 8, 0, 0, 0, [], .null),
    (27, .iload_n 1, 1, 1, 1, 0, 0, 0, [], .null),
    (28, .aload_n 0, 1, 3, 0, 0, 0, 0, [], .null),
    (29, .getfield 19, 3, 26, 10, 1, 0, 0, [], .null),
    (32, .getfield 87, 3, 24, 8, 6, 0, 0, [], .null),
    (35, .iload_n 2, 1, 1, 2, 0, 0, 0, [], .null),
    (36, .invokevirtual 131, 3, 48, 0, 4, 0, 0, [0], .null),
    (39, .ireturn, 1, 56, 0, 0, 0, 0, [], .null)]
def kX10_waterIn : Code9 := [(0, kX10_waterIn_0)]
theorem rX10_waterIn_0 (sa : Nat → Nat) (E : Nat → Sem) (MC MS : Nat) (HX : Nat → Nat → Option Nat) (Q : Option Value → Mm → Prop) (X : Nat → Mm → Prop) (L : List Slot) (st : List Value) (M : Mm) (nc ns : Nat) : Run sa E MC MS HX Q X kX10_waterIn 0 L st M nc ns = bk sa E MC MS HX (Run sa E MC MS HX Q X kX10_waterIn) Q X kX10_waterIn_0 L st M nc ns := Run_eq sa E MC MS HX Q X _ _ _ _ _ _ _
def kX11_append_0 : List Item := [(0, .aload_n 0, 1, 3, 0, 0, 0, 0, [], .null),
    (1, .iconst 0, 1, 0, 0, 0, 0, 0, [], .int 0),
    (2, .putfield 42, 3, 27, 11, 0, 0, 0, [], .null),
    (5, .aload_n 0, 1, 3, 0, 0, 0, 0, [], .null),
    (6, .getfield 45, 3, 24, 11, 2, 0, 0, [], .null),
    (9, .bipush 20, 2, 0, 0, 0, 0, 0, [], .int 20),
    (11, .iadd, 1, 8, 0, 0, 0, 0, [], .null),
    (12, .sipush 900, 3, 0, 0, 0, 0, 0, [], .int 900),
    (15, .if_icmp .le 5, 3, 21, 20, 5, 0, 0, [], .null),
    (18, .iconst (-1), 1, 0, 0, 0, 0, 0, [], .int (-1)),
    (19, .ireturn, 1, 56, 0, 0, 0, 0, [], .null)]
def kX11_append_20 : List Item := [(20, .iconst 0, 1, 0, 0, 0, 0, 0, [], .int 0),
    (21, .istore 6, 2, 4, 6, 0, 0, 0, [], .null),
    (23, .nop, 0, 60, 23, 0, 0, 0, [], .null)]
def kX11_append_23 : List Item := [(23, .iload 6, 2, 1, 6, 0, 0, 0, [], .null),
    (25, .bipush 20, 2, 0, 0, 0, 0, 0, [], .int 20),
    (27, .if_icmp .ge 93, 3, 21, 120, 3, 0, 0, [], .null),
    (30, .iload 6, 2, 1, 6, 0, 0, 0, [], .null),
    (32, .iconst 4, 1, 0, 0, 0, 0, 0, [], .int 4),
    (33, .if_icmp .ge 7, 3, 21, 40, 3, 0, 0, [], .null),
    (36, .iload_n 1, 1, 1, 1, 0, 0, 0, [], .null),
    (37, .goto 39, 3, 22, 76, 0, 0, 0, [], .null)]
def kX11_append_40 : List Item := [(40, .iload 6, 2, 1, 6, 0, 0, 0, [], .null),
    (42, .bipush 8, 2, 0, 0, 0, 0, 0, [], .int 8),
    (44, .if_icmp .ge 7, 3, 21, 51, 3, 0, 0, [], .null),
    (47, .iload_n 2, 1, 1, 2, 0, 0, 0, [], .null),
    (48, .goto 28, 3, 22, 76, 0, 0, 0, [], .null)]
def kX11_append_51 : List Item := [(51, .iload 6, 2, 1, 6, 0, 0, 0, [], .null),
    (53, .bipush 12, 2, 0, 0, 0, 0, 0, [], .int 12),
    (55, .if_icmp .ge 7, 3, 21, 62, 3, 0, 0, [], .null),
    (58, .iload_n 3, 1, 1, 3, 0, 0, 0, [], .null),
    (59, .goto 17, 3, 22, 76, 0, 0, 0, [], .null)]
def kX11_append_62 : List Item := [(62, .iload 6, 2, 1, 6, 0, 0, 0, [], .null),
    (64, .bipush 16, 2, 0, 0, 0, 0, 0, [], .int 16),
    (66, .if_icmp .ge 8, 3, 21, 74, 3, 0, 0, [], .null),
    (69, .iload 4, 2, 1, 4, 0, 0, 0, [], .null),
    (71, .goto 5, 3, 22, 76, 0, 0, 0, [], .null)]
def kX11_append_74 : List Item := [(74, .iload 5, 2, 1, 5, 0, 0, 0, [], .null),
    (76, .istore 7, 2, 4, 7, 0, 0, 0, [], .null),
    (78, .aload_n 0, 1, 3, 0, 0, 0, 0, [], .null),
    (79, .getfield 9, 3, 26, 11, 1, 0, 0, [], .null),
    (82, .aload_n 0, 1, 3, 0, 0, 0, 0, [], .null),
    (83, .getfield 45, 3, 24, 11, 2, 0, 0, [], .null),
    (86, .iload 7, 2, 1, 7, 0, 0, 0, [], .null),
    (88, .bipush 24, 2, 0, 0, 0, 0, 0, [], .int 24),
    (90, .bipush 8, 2, 0, 0, 0, 0, 0, [], .int 8),
    (92, .iload 6, 2, 1, 6, 0, 0, 0, [], .null),
    (94, .iconst 4, 1, 0, 0, 0, 0, 0, [], .int 4),
    (95, .irem, 1, 9, 0, 1, 0, 0, [], .null),
    (96, .imul, 1, 8, 0, 2, 0, 0, [], .null),
    (97, .isub, 1, 8, 0, 1, 0, 0, [], .null),
    (98, .ishr, 1, 8, 0, 4, 0, 0, [], .null),
    (99, .sipush 255, 3, 0, 0, 0, 0, 0, [], .int 255),
    (102, .iand, 1, 8, 0, 3, 0, 0, [], .null),
    (103, .iastore, 1, 35, 0, 0, 0, 0, [], .null),
    (104, .aload_n 0, 1, 3, 0, 0, 0, 0, [], .null),
    (105, .dup, 1, 16, 0, 0, 0, 0, [], .null),
    (106, .getfield 45, 3, 24, 11, 2, 0, 0, [], .null),
    (109, .iconst 1, 1, 0, 0, 0, 0, 0, [], .int 1),
    (110, .iadd, 1, 8, 0, 0, 0, 0, [], .null),
    (111, .putfield 45, 3, 27, 11, 2, 0, 0, [], .null),
    (114, .iinc 6 1, 3, 7, 6, 0, 0, 0, [], .int 1),
    (117, .goto (-94), 3, 22, 23, 0, 0, 0, [], .null)]
def kX11_append_76 : List Item := [(76, .istore 7, 2, 4, 7, 0, 0, 0, [], .null),
    (78, .aload_n 0, 1, 3, 0, 0, 0, 0, [], .null),
    (79, .getfield 9, 3, 26, 11, 1, 0, 0, [], .null),
    (82, .aload_n 0, 1, 3, 0, 0, 0, 0, [], .null),
    (83, .getfield 45, 3, 24, 11, 2, 0, 0, [], .null),
    (86, .iload 7, 2, 1, 7, 0, 0, 0, [], .null),
    (88, .bipush 24, 2, 0, 0, 0, 0, 0, [], .int 24),
    (90, .bipush 8, 2, 0, 0, 0, 0, 0, [], .int 8),
    (92, .iload 6, 2, 1, 6, 0, 0, 0, [], .null),
    (94, .iconst 4, 1, 0, 0, 0, 0, 0, [], .int 4),
    (95, .irem, 1, 9, 0, 1, 0, 0, [], .null),
    (96, .imul, 1, 8, 0, 2, 0, 0, [], .null),
    (97, .isub, 1, 8, 0, 1, 0, 0, [], .null),
    (98, .ishr, 1, 8, 0, 4, 0, 0, [], .null),
    (99, .sipush 255, 3, 0, 0, 0, 0, 0, [], .int 255),
    (102, .iand, 1, 8, 0, 3, 0, 0, [], .null),
    (103, .iastore, 1, 35, 0, 0, 0, 0, [], .null),
    (104, .aload_n 0, 1, 3, 0, 0, 0, 0, [], .null),
    (105, .dup, 1, 16, 0, 0, 0, 0, [], .null),
    (106, .getfield 45, 3, 24, 11, 2, 0, 0, [], .null),
    (109, .iconst 1, 1, 0, 0, 0, 0, 0, [], .int 1),
    (110, .iadd, 1, 8, 0, 0, 0, 0, [], .null),
    (111, .putfield 45, 3, 27, 11, 2, 0, 0, [], .null),
    (114, .iinc 6 1, 3, 7, 6, 0, 0, 0, [], .int 1),
    (117, .goto (-94), 3, 22, 23, 0, 0, 0, [], .null)]
def kX11_append_120 : List Item := [(120, .aload_n 0, 1, 3, 0, 0, 0, 0, [], .null),
    (121, .getfield 45, 3, 24, 11, 2, 0, 0, [], .null),
    (124, .ireturn, 1, 56, 0, 0, 0, 0, [], .null)]
def kX11_append : Code9 := [(0, kX11_append_0), (20, kX11_append_20), (23, kX11_append_23), (40, kX11_append_40), (51, kX11_append_51), (62, kX11_append_62), (74, kX11_append_74), (76, kX11_append_76), (120, kX11_append_120)]
theorem rX11_append_0 (sa : Nat → Nat) (E : Nat → Sem) (MC MS : Nat) (HX : Nat → Nat → Option Nat) (Q : Option Value → Mm → Prop) (X : Nat → Mm → Prop) (L : List Slot) (st : List Value) (M : Mm) (nc ns : Nat) : Run sa E MC MS HX Q X kX11_append 0 L st M nc ns = bk sa E MC MS HX (Run sa E MC MS HX Q X kX11_append) Q X kX11_append_0 L st M nc ns := Run_eq sa E MC MS HX Q X _ _ _ _ _ _ _
theorem rX11_append_20 (sa : Nat → Nat) (E : Nat → Sem) (MC MS : Nat) (HX : Nat → Nat → Option Nat) (Q : Option Value → Mm → Prop) (X : Nat → Mm → Prop) (L : List Slot) (st : List Value) (M : Mm) (nc ns : Nat) : Run sa E MC MS HX Q X kX11_append 20 L st M nc ns = bk sa E MC MS HX (Run sa E MC MS HX Q X kX11_append) Q X kX11_append_20 L st M nc ns := Run_eq sa E MC MS HX Q X _ _ _ _ _ _ _
theorem rX11_append_23 (sa : Nat → Nat) (E : Nat → Sem) (MC MS : Nat) (HX : Nat → Nat → Option Nat) (Q : Option Value → Mm → Prop) (X : Nat → Mm → Prop) (L : List Slot) (st : List Value) (M : Mm) (nc ns : Nat) : Run sa E MC MS HX Q X kX11_append 23 L st M nc ns = bk sa E MC MS HX (Run sa E MC MS HX Q X kX11_append) Q X kX11_append_23 L st M nc ns := Run_eq sa E MC MS HX Q X _ _ _ _ _ _ _
theorem rX11_append_40 (sa : Nat → Nat) (E : Nat → Sem) (MC MS : Nat) (HX : Nat → Nat → Option Nat) (Q : Option Value → Mm → Prop) (X : Nat → Mm → Prop) (L : List Slot) (st : List Value) (M : Mm) (nc ns : Nat) : Run sa E MC MS HX Q X kX11_append 40 L st M nc ns = bk sa E MC MS HX (Run sa E MC MS HX Q X kX11_append) Q X kX11_append_40 L st M nc ns := Run_eq sa E MC MS HX Q X _ _ _ _ _ _ _
theorem rX11_append_51 (sa : Nat → Nat) (E : Nat → Sem) (MC MS : Nat) (HX : Nat → Nat → Option Nat) (Q : Option Value → Mm → Prop) (X : Nat → Mm → Prop) (L : List Slot) (st : List Value) (M : Mm) (nc ns : Nat) : Run sa E MC MS HX Q X kX11_append 51 L st M nc ns = bk sa E MC MS HX (Run sa E MC MS HX Q X kX11_append) Q X kX11_append_51 L st M nc ns := Run_eq sa E MC MS HX Q X _ _ _ _ _ _ _
theorem rX11_append_62 (sa : Nat → Nat) (E : Nat → Sem) (MC MS : Nat) (HX : Nat → Nat → Option Nat) (Q : Option Value → Mm → Prop) (X : Nat → Mm → Prop) (L : List Slot) (st : List Value) (M : Mm) (nc ns : Nat) : Run sa E MC MS HX Q X kX11_append 62 L st M nc ns = bk sa E MC MS HX (Run sa E MC MS HX Q X kX11_append) Q X kX11_append_62 L st M nc ns := Run_eq sa E MC MS HX Q X _ _ _ _ _ _ _
theorem rX11_append_74 (sa : Nat → Nat) (E : Nat → Sem) (MC MS : Nat) (HX : Nat → Nat → Option Nat) (Q : Option Value → Mm → Prop) (X : Nat → Mm → Prop) (L : List Slot) (st : List Value) (M : Mm) (nc ns : Nat) : Run sa E MC MS HX Q X kX11_append 74 L st M nc ns = bk sa E MC MS HX (Run sa E MC MS HX Q X kX11_append) Q X kX11_append_74 L st M nc ns := Run_eq sa E MC MS HX Q X _ _ _ _ _ _ _
theorem rX11_append_76 (sa : Nat → Nat) (E : Nat → Sem) (MC MS : Nat) (HX : Nat → Nat → Option Nat) (Q : Option Value → Mm → Prop) (X : Nat → Mm → Prop) (L : List Slot) (st : List Value) (M : Mm) (nc ns : Nat) : Run sa E MC MS HX Q X kX11_append 76 L st M nc ns = bk sa E MC MS HX (Run sa E MC MS HX Q X kX11_append) Q X kX11_append_76 L st M nc ns := Run_eq sa E MC MS HX Q X _ _ _ _ _ _ _
theorem rX11_append_120 (sa : Nat → Nat) (E : Nat → Sem) (MC MS : Nat) (HX : Nat → Nat → Option Nat) (Q : Option Value → Mm → Prop) (X : Nat → Mm → Prop) (L : List Slot) (st : List Value) (M : Mm) (nc ns : Nat) : Run sa E MC MS HX Q X kX11_append 120 L st M nc ns = bk sa E MC MS HX (Run sa E MC MS HX Q X kX11_append) Q X kX11_append_120 L st M nc ns := Run_eq sa E MC MS HX Q X _ _ _ _ _ _ _
def kX11_arrived_0 : List Item := [(0, .aload_n 0, 1, 3, 0, 0, 0, 0, [], .null),
    (1, .iconst 0, 1, 0, 0, 0, 0, 0, [], .int 0),
    (2, .putfield 42, 3, 27, 11, 0, 0, 0, [], .null),
    (5, .aload_n 0, 1, 3, 0, 0, 0, 0, [], .null),
    (6, .iload_n 1, 1, 1, 1, 0, 0, 0, [], .null),
    (7, .invokevirtual 236, 3, 48, 152, 2, 0, 0, [11], .null),
    (10, .ifCond .eq 7, 3, 20, 17, 0, 0, 0, [], .null),
    (13, .iconst 0, 1, 0, 0, 0, 0, 0, [], .int 0),
    (14, .goto 14, 3, 22, 28, 0, 0, 0, [], .null)]
def kX11_arrived_17 : List Item := [(17, .aload_n 0, 1, 3, 0, 0, 0, 0, [], .null),
    (18, .getfield 17, 3, 26, 11, 8, 0, 0, [], .null),
    (21, .iload_n 1, 1, 1, 1, 0, 0, 0, [], .null),
    (22, .invokestatic 133, 3, 48, 113, 1, 0, 0, [], .null),
    (25, .iconst 5, 1, 0, 0, 0, 0, 0, [], .int 5),
    (26, .iadd, 1, 8, 0, 0, 0, 0, [], .null),
    (27, .iaload, 1, 31, 0, 0, 0, 0, [], .null),
    (28, .ireturn, 1, 56, 0, 0, 0, 0, [], .null)]
def kX11_arrived_28 : List Item := [(28, .ireturn, 1, 56, 0, 0, 0, 0, [], .null)]
def kX11_arrived : Code9 := [(0, kX11_arrived_0), (17, kX11_arrived_17), (28, kX11_arrived_28)]
theorem rX11_arrived_0 (sa : Nat → Nat) (E : Nat → Sem) (MC MS : Nat) (HX : Nat → Nat → Option Nat) (Q : Option Value → Mm → Prop) (X : Nat → Mm → Prop) (L : List Slot) (st : List Value) (M : Mm) (nc ns : Nat) : Run sa E MC MS HX Q X kX11_arrived 0 L st M nc ns = bk sa E MC MS HX (Run sa E MC MS HX Q X kX11_arrived) Q X kX11_arrived_0 L st M nc ns := Run_eq sa E MC MS HX Q X _ _ _ _ _ _ _
theorem rX11_arrived_17 (sa : Nat → Nat) (E : Nat → Sem) (MC MS : Nat) (HX : Nat → Nat → Option Nat) (Q : Option Value → Mm → Prop) (X : Nat → Mm → Prop) (L : List Slot) (st : List Value) (M : Mm) (nc ns : Nat) : Run sa E MC MS HX Q X kX11_arrived 17 L st M nc ns = bk sa E MC MS HX (Run sa E MC MS HX Q X kX11_arrived) Q X kX11_arrived_17 L st M nc ns := Run_eq sa E MC MS HX Q X _ _ _ _ _ _ _
theorem rX11_arrived_28 (sa : Nat → Nat) (E : Nat → Sem) (MC MS : Nat) (HX : Nat → Nat → Option Nat) (Q : Option Value → Mm → Prop) (X : Nat → Mm → Prop) (L : List Slot) (st : List Value) (M : Mm) (nc ns : Nat) : Run sa E MC MS HX Q X kX11_arrived 28 L st M nc ns = bk sa E MC MS HX (Run sa E MC MS HX Q X kX11_arrived) Q X kX11_arrived_28 L st M nc ns := Run_eq sa E MC MS HX Q X _ _ _ _ _ _ _
def kX11_arrives_0 : List Item := [(0, .iconst 0, 1, 0, 0, 0, 0, 0, [], .int 0),
    (1, .istore_n 3, 1, 4, 3, 0, 0, 0, [], .null),
    (2, .iconst 0, 1, 0, 0, 0, 0, 0, [], .int 0),
    (3, .istore 4, 2, 4, 4, 0, 0, 0, [], .null),
    (5, .nop, 0, 60, 5, 0, 0, 0, [], .null)]
def kX11_arrives_5 : List Item := [(5, .iload 4, 2, 1, 4, 0, 0, 0, [], .null),
    (7, .iload_n 2, 1, 1, 2, 0, 0, 0, [], .null),
    (8, .if_icmp .ge 31, 3, 21, 39, 3, 0, 0, [], .null),
    (11, .aload_n 0, 1, 3, 0, 0, 0, 0, [], .null),
    (12, .aload_n 0, 1, 3, 0, 0, 0, 0, [], .null),
    (13, .getfield 23, 3, 26, 11, 10, 0, 0, [], .null),
    (16, .invokevirtual 248, 3, 48, 168, 2, 0, 0, [11], .null),
    (19, .iload_n 3, 1, 1, 3, 0, 0, 0, [], .null),
    (20, .aload_n 0, 1, 3, 0, 0, 0, 0, [], .null),
    (21, .getfield 23, 3, 26, 11, 10, 0, 0, [], .null),
    (24, .iload_n 1, 1, 1, 1, 0, 0, 0, [], .null),
    (25, .invokestatic 133, 3, 48, 113, 1, 0, 0, [], .null),
    (28, .iconst 5, 1, 0, 0, 0, 0, 0, [], .int 5),
    (29, .iadd, 1, 8, 0, 0, 0, 0, [], .null),
    (30, .iaload, 1, 31, 0, 0, 0, 0, [], .null),
    (31, .iadd, 1, 8, 0, 0, 0, 0, [], .null),
    (32, .istore_n 3, 1, 4, 3, 0, 0, 0, [], .null),
    (33, .iinc 4 1, 3, 7, 4, 0, 0, 0, [], .int 1),
    (36, .goto (-31), 3, 22, 5, 0, 0, 0, [], .null)]
def kX11_arrives_39 : List Item := [(39, .iload_n 3, 1, 1, 3, 0, 0, 0, [], .null),
    (40, .ireturn, 1, 56, 0, 0, 0, 0, [], .null)]
def kX11_arrives : Code9 := [(0, kX11_arrives_0), (5, kX11_arrives_5), (39, kX11_arrives_39)]
theorem rX11_arrives_0 (sa : Nat → Nat) (E : Nat → Sem) (MC MS : Nat) (HX : Nat → Nat → Option Nat) (Q : Option Value → Mm → Prop) (X : Nat → Mm → Prop) (L : List Slot) (st : List Value) (M : Mm) (nc ns : Nat) : Run sa E MC MS HX Q X kX11_arrives 0 L st M nc ns = bk sa E MC MS HX (Run sa E MC MS HX Q X kX11_arrives) Q X kX11_arrives_0 L st M nc ns := Run_eq sa E MC MS HX Q X _ _ _ _ _ _ _
theorem rX11_arrives_5 (sa : Nat → Nat) (E : Nat → Sem) (MC MS : Nat) (HX : Nat → Nat → Option Nat) (Q : Option Value → Mm → Prop) (X : Nat → Mm → Prop) (L : List Slot) (st : List Value) (M : Mm) (nc ns : Nat) : Run sa E MC MS HX Q X kX11_arrives 5 L st M nc ns = bk sa E MC MS HX (Run sa E MC MS HX Q X kX11_arrives) Q X kX11_arrives_5 L st M nc ns := Run_eq sa E MC MS HX Q X _ _ _ _ _ _ _
theorem rX11_arrives_39 (sa : Nat → Nat) (E : Nat → Sem) (MC MS : Nat) (HX : Nat → Nat → Option Nat) (Q : Option Value → Mm → Prop) (X : Nat → Mm → Prop) (L : List Slot) (st : List Value) (M : Mm) (nc ns : Nat) : Run sa E MC MS HX Q X kX11_arrives 39 L st M nc ns = bk sa E MC MS HX (Run sa E MC MS HX Q X kX11_arrives) Q X kX11_arrives_39 L st M nc ns := Run_eq sa E MC MS HX Q X _ _ _ _ _ _ _
def kX11_byteAt_0 : List Item := [(0, .iload_n 1, 1, 1, 1, 0, 0, 0, [], .null),
    (1, .aload_n 0, 1, 3, 0, 0, 0, 0, [], .null),
    (2, .getfield 48, 3, 24, 11, 3, 0, 0, [], .null),
    (5, .if_icmp .ge 12, 3, 21, 17, 3, 0, 0, [], .null),
    (8, .aload_n 0, 1, 3, 0, 0, 0, 0, [], .null),
    (9, .getfield 9, 3, 26, 11, 1, 0, 0, [], .null),
    (12, .iload_n 1, 1, 1, 1, 0, 0, 0, [], .null),
    (13, .iaload, 1, 31, 0, 0, 0, 0, [], .null),
    (14, .goto 4, 3, 22, 18, 0, 0, 0, [], .null)]
def kX11_byteAt_17 : List Item := [(17, .iconst (-1), 1, 0, 0, 0, 0, 0, [], .int (-1)),
    (18, .ireturn, 1, 56, 0, 0, 0, 0, [], .null)]
def kX11_byteAt_18 : List Item := [(18, .ireturn, 1, 56, 0, 0, 0, 0, [], .null)]
def kX11_byteAt : Code9 := [(0, kX11_byteAt_0), (17, kX11_byteAt_17), (18, kX11_byteAt_18)]
theorem rX11_byteAt_0 (sa : Nat → Nat) (E : Nat → Sem) (MC MS : Nat) (HX : Nat → Nat → Option Nat) (Q : Option Value → Mm → Prop) (X : Nat → Mm → Prop) (L : List Slot) (st : List Value) (M : Mm) (nc ns : Nat) : Run sa E MC MS HX Q X kX11_byteAt 0 L st M nc ns = bk sa E MC MS HX (Run sa E MC MS HX Q X kX11_byteAt) Q X kX11_byteAt_0 L st M nc ns := Run_eq sa E MC MS HX Q X _ _ _ _ _ _ _
theorem rX11_byteAt_17 (sa : Nat → Nat) (E : Nat → Sem) (MC MS : Nat) (HX : Nat → Nat → Option Nat) (Q : Option Value → Mm → Prop) (X : Nat → Mm → Prop) (L : List Slot) (st : List Value) (M : Mm) (nc ns : Nat) : Run sa E MC MS HX Q X kX11_byteAt 17 L st M nc ns = bk sa E MC MS HX (Run sa E MC MS HX Q X kX11_byteAt) Q X kX11_byteAt_17 L st M nc ns := Run_eq sa E MC MS HX Q X _ _ _ _ _ _ _
theorem rX11_byteAt_18 (sa : Nat → Nat) (E : Nat → Sem) (MC MS : Nat) (HX : Nat → Nat → Option Nat) (Q : Option Value → Mm → Prop) (X : Nat → Mm → Prop) (L : List Slot) (st : List Value) (M : Mm) (nc ns : Nat) : Run sa E MC MS HX Q X kX11_byteAt 18 L st M nc ns = bk sa E MC MS HX (Run sa E MC MS HX Q X kX11_byteAt) Q X kX11_byteAt_18 L st M nc ns := Run_eq sa E MC MS HX Q X _ _ _ _ _ _ _
def kX11_canal_0 : List Item := [(0, .bipush 13, 2, 0, 0, 0, 0, 0, [], .int 13),
    (2, .bipush 13, 2, 0, 0, 0, 0, 0, [], .int 13),
    (4, .iload_n 0, 1, 1, 0, 0, 0, 0, [], .null),
    (5, .imul, 1, 8, 0, 2, 0, 0, [], .null),
    (6, .iadd, 1, 8, 0, 0, 0, 0, [], .null),
    (7, .ireturn, 1, 56, 0, 0, 0, 0, [], .null)]
def kX11_canal : Code9 := [(0, kX11_canal_0)]
theorem rX11_canal_0 (sa : Nat → Nat) (E : Nat → Sem) (MC MS : Nat) (HX : Nat → Nat → Option Nat) (Q : Option Value → Mm → Prop) (X : Nat → Mm → Prop) (L : List Slot) (st : List Value) (M : Mm) (nc ns : Nat) : Run sa E MC MS HX Q X kX11_canal 0 L st M nc ns = bk sa E MC MS HX (Run sa E MC MS HX Q X kX11_canal) Q X kX11_canal_0 L st M nc ns := Run_eq sa E MC MS HX Q X _ _ _ _ _ _ _
def kX11_canalCount_0 : List Item := [(0, .aload_n 0, 1, 3, 0, 0, 0, 0, [], .null),
    (1, .iconst 0, 1, 0, 0, 0, 0, 0, [], .int 0),
    (2, .putfield 42, 3, 27, 11, 0, 0, 0, [], .null),
    (5, .aload_n 0, 1, 3, 0, 0, 0, 0, [], .null),
    (6, .getfield 17, 3, 26, 11, 8, 0, 0, [], .null),
    (9, .iconst 0, 1, 0, 0, 0, 0, 0, [], .int 0),
    (10, .iaload, 1, 31, 0, 0, 0, 0, [], .null),
    (11, .ireturn, 1, 56, 0, 0, 0, 0, [], .null)]
def kX11_canalCount : Code9 := [(0, kX11_canalCount_0)]
theorem rX11_canalCount_0 (sa : Nat → Nat) (E : Nat → Sem) (MC MS : Nat) (HX : Nat → Nat → Option Nat) (Q : Option Value → Mm → Prop) (X : Nat → Mm → Prop) (L : List Slot) (st : List Value) (M : Mm) (nc ns : Nat) : Run sa E MC MS HX Q X kX11_canalCount 0 L st M nc ns = bk sa E MC MS HX (Run sa E MC MS HX Q X kX11_canalCount) Q X kX11_canalCount_0 L st M nc ns := Run_eq sa E MC MS HX Q X _ _ _ _ _ _ _
def kX11_checksum_0 : List Item := [(0, .aload_n 0, 1, 3, 0, 0, 0, 0, [], .null),
    (1, .iconst 0, 1, 0, 0, 0, 0, 0, [], .int 0),
    (2, .putfield 42, 3, 27, 11, 0, 0, 0, [], .null),
    (5, .aload_n 0, 1, 3, 0, 0, 0, 0, [], .null),
    (6, .getfield 17, 3, 26, 11, 8, 0, 0, [], .null),
    (9, .iconst 5, 1, 0, 0, 0, 0, 0, [], .int 5),
    (10, .iaload, 1, 31, 0, 0, 0, 0, [], .null),
    (11, .i2l, 1, 12, 0, 0, 0, 0, [], .null),
    (12, .lstore_n 1, 1, 6, 1, 0, 0, 0, [], .null),
    (13, .iconst 0, 1, 0, 0, 0, 0, 0, [], .int 0),
    (14, .istore_n 3, 1, 4, 3, 0, 0, 0, [], .null),
    (15, .nop, 0, 60, 15, 0, 0, 0, [], .null)]
def kX11_checksum_15 : List Item := [(15, .iload_n 3, 1, 1, 3, 0, 0, 0, [], .null),
    (16, .aload_n 0, 1, 3, 0, 0, 0, 0, [], .null),
    (17, .getfield 17, 3, 26, 11, 8, 0, 0, [], .null),
    (20, .iconst 0, 1, 0, 0, 0, 0, 0, [], .int 0),
    (21, .iaload, 1, 31, 0, 0, 0, 0, [], .null),
    (22, .if_icmp .ge 57, 3, 21, 79, 3, 0, 0, [], .null),
    (25, .iconst 0, 1, 0, 0, 0, 0, 0, [], .int 0),
    (26, .istore 4, 2, 4, 4, 0, 0, 0, [], .null),
    (28, .nop, 0, 60, 28, 0, 0, 0, [], .null)]
def kX11_checksum_28 : List Item := [(28, .iload 4, 2, 1, 4, 0, 0, 0, [], .null),
    (30, .aload_n 0, 1, 3, 0, 0, 0, 0, [], .null),
    (31, .getfield 17, 3, 26, 11, 8, 0, 0, [], .null),
    (34, .iload_n 3, 1, 1, 3, 0, 0, 0, [], .null),
    (35, .invokestatic 133, 3, 48, 113, 1, 0, 0, [], .null),
    (38, .iconst 1, 1, 0, 0, 0, 0, 0, [], .int 1),
    (39, .iadd, 1, 8, 0, 0, 0, 0, [], .null),
    (40, .iaload, 1, 31, 0, 0, 0, 0, [], .null),
    (41, .if_icmp .ge 32, 3, 21, 73, 3, 0, 0, [], .null),
    (44, .ldc2_w 260, 3, 0, 0, 0, 0, 0, [], .long 31),
    (47, .lload_n 1, 1, 2, 1, 0, 0, 0, [], .null),
    (48, .lmul, 1, 10, 0, 2, 0, 0, [], .null),
    (49, .aload_n 0, 1, 3, 0, 0, 0, 0, [], .null),
    (50, .getfield 17, 3, 26, 11, 8, 0, 0, [], .null),
    (53, .iload_n 3, 1, 1, 3, 0, 0, 0, [], .null),
    (54, .invokestatic 133, 3, 48, 113, 1, 0, 0, [], .null),
    (57, .bipush 6, 2, 0, 0, 0, 0, 0, [], .int 6),
    (59, .iadd, 1, 8, 0, 0, 0, 0, [], .null),
    (60, .iload 4, 2, 1, 4, 0, 0, 0, [], .null),
    (62, .iadd, 1, 8, 0, 0, 0, 0, [], .null),
    (63, .iaload, 1, 31, 0, 0, 0, 0, [], .null),
    (64, .i2l, 1, 12, 0, 0, 0, 0, [], .null),
    (65, .ladd, 1, 10, 0, 0, 0, 0, [], .null),
    (66, .lstore_n 1, 1, 6, 1, 0, 0, 0, [], .null),
    (67, .iinc 4 1, 3, 7, 4, 0, 0, 0, [], .int 1),
    (70, .goto (-42), 3, 22, 28, 0, 0, 0, [], .null)]
def kX11_checksum_73 : List Item := [(73, .iinc 3 1, 3, 7, 3, 0, 0, 0, [], .int 1),
    (76, .goto (-61), 3, 22, 15, 0, 0, 0, [], .null)]
def kX11_checksum_79 : List Item := [(79, .iconst 0, 1, 0, 0, 0, 0, 0, [], .int 0),
    (80, .istore_n 3, 1, 4, 3, 0, 0, 0, [], .null),
    (81, .nop, 0, 60, 81, 0, 0, 0, [], .null)]
def kX11_checksum_81 : List Item := [(81, .iload_n 3, 1, 1, 3, 0, 0, 0, [], .null),
    (82, .aload_n 0, 1, 3, 0, 0, 0, 0, [], .null),
    (83, .getfield 17, 3, 26, 11, 8, 0, 0, [], .null),
    (86, .iconst 1, 1, 0, 0, 0, 0, 0, [], .int 1),
    (87, .iaload, 1, 31, 0, 0, 0, 0, [], .null),
    (88, .if_icmp .ge 87, 3, 21, 175, 3, 0, 0, [], .null),
    (91, .iload_n 3, 1, 1, 3, 0, 0, 0, [], .null),
    (92, .invokestatic 140, 3, 48, 131, 1, 0, 0, [], .null),
    (95, .istore 4, 2, 4, 4, 0, 0, 0, [], .null),
    (97, .ldc2_w 260, 3, 0, 0, 0, 0, 0, [], .long 31),
    (100, .lload_n 1, 1, 2, 1, 0, 0, 0, [], .null),
    (101, .lmul, 1, 10, 0, 2, 0, 0, [], .null),
    (102, .aload_n 0, 1, 3, 0, 0, 0, 0, [], .null),
    (103, .getfield 17, 3, 26, 11, 8, 0, 0, [], .null),
    (106, .iload 4, 2, 1, 4, 0, 0, 0, [], .null),
    (108, .bipush 7, 2, 0, 0, 0, 0, 0, [], .int 7),
    (110, .iadd, 1, 8, 0, 0, 0, 0, [], .null),
    (111, .iaload, 1, 31, 0, 0, 0, 0, [], .null),
    (112, .i2l, 1, 12, 0, 0, 0, 0, [], .null),
    (113, .ladd, 1, 10, 0, 0, 0, 0, [], .null),
    (114, .lstore_n 1, 1, 6, 1, 0, 0, 0, [], .null),
    (115, .ldc2_w 260, 3, 0, 0, 0, 0, 0, [], .long 31),
    (118, .lload_n 1, 1, 2, 1, 0, 0, 0, [], .null),
    (119, .lmul, 1, 10, 0, 2, 0, 0, [], .null),
    (120, .aload_n 0, 1, 3, 0, 0, 0, 0, [], .null),
    (121, .getfield 17, 3, 26, 11, 8, 0, 0, [], .null),
    (124, .iload 4, 2, 1, 4, 0, 0, 0, [], .null),
    (126, .bipush 8, 2, 0, 0, 0, 0, 0, [], .int 8),
    (128, .iadd, 1, 8, 0, 0, 0, 0, [], .null),
    (129, .iaload, 1, 31, 0, 0, 0, 0, [], .null),
    (130, .i2l, 1, 12, 0, 0, 0, 0, [], .null),
    (131, .ladd, 1, 10, 0, 0, 0, 0, [], .null),
    (132, .lstore_n 1, 1, 6, 1, 0, 0, 0, [], .null),
    (133, .ldc2_w 260, 3, 0, 0, 0, 0, 0, [], .long 31),
    (136, .lload_n 1, 1, 2, 1, 0, 0, 0, [], .null),
    (137, .lmul, 1, 10, 0, 2, 0, 0, [], .null),
    (138, .aload_n 0, 1, 3, 0, 0, 0, 0, [], .null),
    (139, .getfield 17, 3, 26, 11, 8, 0, 0, [], .null),
    (142, .iload 4, 2, 1, 4, 0, 0, 0, [], .null),
    (144, .bipush 9, 2, 0, 0, 0, 0, 0, [], .int 9),
    (146, .iadd, 1, 8, 0, 0, 0, 0, [], .null),
    (147, .iaload, 1, 31, 0, 0, 0, 0, [], .null),
    (148, .i2l, 1, 12, 0, 0, 0, 0, [], .null),
    (149, .ladd, 1, 10, 0, 0, 0, 0, [], .null),
    (150, .lstore_n 1, 1, 6, 1, 0, 0, 0, [], .null),
    (151, .ldc2_w 260, 3, 0, 0, 0, 0, 0, [], .long 31),
    (154, .lload_n 1, 1, 2, 1, 0, 0, 0, [], .null),
    (155, .lmul, 1, 10, 0, 2, 0, 0, [], .null),
    (156, .aload_n 0, 1, 3, 0, 0, 0, 0, [], .null),
    (157, .getfield 17, 3, 26, 11, 8, 0, 0, [], .null),
    (160, .iload 4, 2, 1, 4, 0, 0, 0, [], .null),
    (162, .bipush 10, 2, 0, 0, 0, 0, 0, [], .int 10),
    (164, .iadd, 1, 8, 0, 0, 0, 0, [], .null),
    (165, .iaload, 1, 31, 0, 0, 0, 0, [], .null),
    (166, .i2l, 1, 12, 0, 0, 0, 0, [], .null),
    (167, .ladd, 1, 10, 0, 0, 0, 0, [], .null),
    (168, .lstore_n 1, 1, 6, 1, 0, 0, 0, [], .null),
    (169, .iinc 3 1, 3, 7, 3, 0, 0, 0, [], .int 1),
    (172, .goto (-91), 3, 22, 81, 0, 0, 0, [], .null)]
def kX11_checksum_175 : List Item := [(175, .iconst 0, 1, 0, 0, 0, 0, 0, [], .int 0),
    (176, .istore_n 3, 1, 4, 3, 0, 0, 0, [], .null),
    (177, .nop, 0, 60, 177, 0, 0, 0, [], .null)]
def kX11_checksum_177 : List Item := [(177, .iload_n 3, 1, 1, 3, 0, 0, 0, [], .null),
    (178, .bipush 6, 2, 0, 0, 0, 0, 0, [], .int 6),
    (180, .if_icmp .ge 27, 3, 21, 207, 3, 0, 0, [], .null),
    (183, .ldc2_w 260, 3, 0, 0, 0, 0, 0, [], .long 31),
    (186, .lload_n 1, 1, 2, 1, 0, 0, 0, [], .null),
    (187, .lmul, 1, 10, 0, 2, 0, 0, [], .null),
    (188, .aload_n 0, 1, 3, 0, 0, 0, 0, [], .null),
    (189, .getfield 17, 3, 26, 11, 8, 0, 0, [], .null),
    (192, .sipush 387, 3, 0, 0, 0, 0, 0, [], .int 387),
    (195, .iload_n 3, 1, 1, 3, 0, 0, 0, [], .null),
    (196, .iadd, 1, 8, 0, 0, 0, 0, [], .null),
    (197, .iaload, 1, 31, 0, 0, 0, 0, [], .null),
    (198, .i2l, 1, 12, 0, 0, 0, 0, [], .null),
    (199, .ladd, 1, 10, 0, 0, 0, 0, [], .null),
    (200, .lstore_n 1, 1, 6, 1, 0, 0, 0, [], .null),
    (201, .iinc 3 1, 3, 7, 3, 0, 0, 0, [], .int 1),
    (204, .goto (-27), 3, 22, 177, 0, 0, 0, [], .null)]
def kX11_checksum_207 : List Item := [(207, .ldc2_w 260, 3, 0, 0, 0, 0, 0, [], .long 31),
    (210, .lload_n 1, 1, 2, 1, 0, 0, 0, [], .null),
    (211, .lmul, 1, 10, 0, 2, 0, 0, [], .null),
    (212, .aload_n 0, 1, 3, 0, 0, 0, 0, [], .null),
    (213, .getfield 17, 3, 26, 11, 8, 0, 0, [], .null),
    (216, .invokestatic 208, 3, 48, 136, 1, 0, 0, [], .null),
    (219, .i2l, 1, 12, 0, 0, 0, 0, [], .null),
    (220, .ladd, 1, 10, 0, 0, 0, 0, [], .null),
    (221, .lreturn, 1, 57, 0, 0, 0, 0, [], .null)]
def kX11_checksum : Code9 := [(0, kX11_checksum_0), (15, kX11_checksum_15), (28, kX11_checksum_28), (73, kX11_checksum_73), (79, kX11_checksum_79), (81, kX11_checksum_81), (175, kX11_checksum_175), (177, kX11_checksum_177), (207, kX11_checksum_207)]
theorem rX11_checksum_0 (sa : Nat → Nat) (E : Nat → Sem) (MC MS : Nat) (HX : Nat → Nat → Option Nat) (Q : Option Value → Mm → Prop) (X : Nat → Mm → Prop) (L : List Slot) (st : List Value) (M : Mm) (nc ns : Nat) : Run sa E MC MS HX Q X kX11_checksum 0 L st M nc ns = bk sa E MC MS HX (Run sa E MC MS HX Q X kX11_checksum) Q X kX11_checksum_0 L st M nc ns := Run_eq sa E MC MS HX Q X _ _ _ _ _ _ _
theorem rX11_checksum_15 (sa : Nat → Nat) (E : Nat → Sem) (MC MS : Nat) (HX : Nat → Nat → Option Nat) (Q : Option Value → Mm → Prop) (X : Nat → Mm → Prop) (L : List Slot) (st : List Value) (M : Mm) (nc ns : Nat) : Run sa E MC MS HX Q X kX11_checksum 15 L st M nc ns = bk sa E MC MS HX (Run sa E MC MS HX Q X kX11_checksum) Q X kX11_checksum_15 L st M nc ns := Run_eq sa E MC MS HX Q X _ _ _ _ _ _ _
theorem rX11_checksum_28 (sa : Nat → Nat) (E : Nat → Sem) (MC MS : Nat) (HX : Nat → Nat → Option Nat) (Q : Option Value → Mm → Prop) (X : Nat → Mm → Prop) (L : List Slot) (st : List Value) (M : Mm) (nc ns : Nat) : Run sa E MC MS HX Q X kX11_checksum 28 L st M nc ns = bk sa E MC MS HX (Run sa E MC MS HX Q X kX11_checksum) Q X kX11_checksum_28 L st M nc ns := Run_eq sa E MC MS HX Q X _ _ _ _ _ _ _
theorem rX11_checksum_73 (sa : Nat → Nat) (E : Nat → Sem) (MC MS : Nat) (HX : Nat → Nat → Option Nat) (Q : Option Value → Mm → Prop) (X : Nat → Mm → Prop) (L : List Slot) (st : List Value) (M : Mm) (nc ns : Nat) : Run sa E MC MS HX Q X kX11_checksum 73 L st M nc ns = bk sa E MC MS HX (Run sa E MC MS HX Q X kX11_checksum) Q X kX11_checksum_73 L st M nc ns := Run_eq sa E MC MS HX Q X _ _ _ _ _ _ _
theorem rX11_checksum_79 (sa : Nat → Nat) (E : Nat → Sem) (MC MS : Nat) (HX : Nat → Nat → Option Nat) (Q : Option Value → Mm → Prop) (X : Nat → Mm → Prop) (L : List Slot) (st : List Value) (M : Mm) (nc ns : Nat) : Run sa E MC MS HX Q X kX11_checksum 79 L st M nc ns = bk sa E MC MS HX (Run sa E MC MS HX Q X kX11_checksum) Q X kX11_checksum_79 L st M nc ns := Run_eq sa E MC MS HX Q X _ _ _ _ _ _ _
theorem rX11_checksum_81 (sa : Nat → Nat) (E : Nat → Sem) (MC MS : Nat) (HX : Nat → Nat → Option Nat) (Q : Option Value → Mm → Prop) (X : Nat → Mm → Prop) (L : List Slot) (st : List Value) (M : Mm) (nc ns : Nat) : Run sa E MC MS HX Q X kX11_checksum 81 L st M nc ns = bk sa E MC MS HX (Run sa E MC MS HX Q X kX11_checksum) Q X kX11_checksum_81 L st M nc ns := Run_eq sa E MC MS HX Q X _ _ _ _ _ _ _
theorem rX11_checksum_175 (sa : Nat → Nat) (E : Nat → Sem) (MC MS : Nat) (HX : Nat → Nat → Option Nat) (Q : Option Value → Mm → Prop) (X : Nat → Mm → Prop) (L : List Slot) (st : List Value) (M : Mm) (nc ns : Nat) : Run sa E MC MS HX Q X kX11_checksum 175 L st M nc ns = bk sa E MC MS HX (Run sa E MC MS HX Q X kX11_checksum) Q X kX11_checksum_175 L st M nc ns := Run_eq sa E MC MS HX Q X _ _ _ _ _ _ _
theorem rX11_checksum_177 (sa : Nat → Nat) (E : Nat → Sem) (MC MS : Nat) (HX : Nat → Nat → Option Nat) (Q : Option Value → Mm → Prop) (X : Nat → Mm → Prop) (L : List Slot) (st : List Value) (M : Mm) (nc ns : Nat) : Run sa E MC MS HX Q X kX11_checksum 177 L st M nc ns = bk sa E MC MS HX (Run sa E MC MS HX Q X kX11_checksum) Q X kX11_checksum_177 L st M nc ns := Run_eq sa E MC MS HX Q X _ _ _ _ _ _ _
theorem rX11_checksum_207 (sa : Nat → Nat) (E : Nat → Sem) (MC MS : Nat) (HX : Nat → Nat → Option Nat) (Q : Option Value → Mm → Prop) (X : Nat → Mm → Prop) (L : List Slot) (st : List Value) (M : Mm) (nc ns : Nat) : Run sa E MC MS HX Q X kX11_checksum 207 L st M nc ns = bk sa E MC MS HX (Run sa E MC MS HX Q X kX11_checksum) Q X kX11_checksum_207 L st M nc ns := Run_eq sa E MC MS HX Q X _ _ _ _ _ _ _
def kX11_clock_0 : List Item := [(0, .aload_n 0, 1, 3, 0, 0, 0, 0, [], .null),
    (1, .iconst 0, 1, 0, 0, 0, 0, 0, [], .int 0),
    (2, .putfield 42, 3, 27, 11, 0, 0, 0, [], .null),
    (5, .aload_n 0, 1, 3, 0, 0, 0, 0, [], .null),
    (6, .getfield 17, 3, 26, 11, 8, 0, 0, [], .null),
    (9, .iconst 5, 1, 0, 0, 0, 0, 0, [], .int 5),
    (10, .iaload, 1, 31, 0, 0, 0, 0, [], .null),
    (11, .ireturn, 1, 56, 0, 0, 0, 0, [], .null)]
def kX11_clock : Code9 := [(0, kX11_clock_0)]
theorem rX11_clock_0 (sa : Nat → Nat) (E : Nat → Sem) (MC MS : Nat) (HX : Nat → Nat → Option Nat) (Q : Option Value → Mm → Prop) (X : Nat → Mm → Prop) (L : List Slot) (st : List Value) (M : Mm) (nc ns : Nat) : Run sa E MC MS HX Q X kX11_clock 0 L st M nc ns = bk sa E MC MS HX (Run sa E MC MS HX Q X kX11_clock) Q X kX11_clock_0 L st M nc ns := Run_eq sa E MC MS HX Q X _ _ _ _ _ _ _
def kX11_copy_0 : List Item := [(0, .iconst 0, 1, 0, 0, 0, 0, 0, [], .int 0),
    (1, .istore_n 2, 1, 4, 2, 0, 0, 0, [], .null),
    (2, .nop, 0, 60, 2, 0, 0, 0, [], .null)]
def kX11_copy_2 : List Item := [(2, .iload_n 2, 1, 1, 2, 0, 0, 0, [], .null),
    (3, .sipush 1793, 3, 0, 0, 0, 0, 0, [], .int 1793),
    (6, .if_icmp .ge 15, 3, 21, 21, 3, 0, 0, [], .null),
    (9, .aload_n 1, 1, 3, 1, 0, 0, 0, [], .null),
    (10, .iload_n 2, 1, 1, 2, 0, 0, 0, [], .null),
    (11, .aload_n 0, 1, 3, 0, 0, 0, 0, [], .null),
    (12, .iload_n 2, 1, 1, 2, 0, 0, 0, [], .null),
    (13, .iaload, 1, 31, 0, 0, 0, 0, [], .null),
    (14, .iastore, 1, 35, 0, 0, 0, 0, [], .null),
    (15, .iinc 2 1, 3, 7, 2, 0, 0, 0, [], .int 1),
    (18, .goto (-16), 3, 22, 2, 0, 0, 0, [], .null)]
def kX11_copy_21 : List Item := [(21, .return_, 1, 55, 0, 0, 0, 0, [], .null)]
def kX11_copy : Code9 := [(0, kX11_copy_0), (2, kX11_copy_2), (21, kX11_copy_21)]
theorem rX11_copy_0 (sa : Nat → Nat) (E : Nat → Sem) (MC MS : Nat) (HX : Nat → Nat → Option Nat) (Q : Option Value → Mm → Prop) (X : Nat → Mm → Prop) (L : List Slot) (st : List Value) (M : Mm) (nc ns : Nat) : Run sa E MC MS HX Q X kX11_copy 0 L st M nc ns = bk sa E MC MS HX (Run sa E MC MS HX Q X kX11_copy) Q X kX11_copy_0 L st M nc ns := Run_eq sa E MC MS HX Q X _ _ _ _ _ _ _
theorem rX11_copy_2 (sa : Nat → Nat) (E : Nat → Sem) (MC MS : Nat) (HX : Nat → Nat → Option Nat) (Q : Option Value → Mm → Prop) (X : Nat → Mm → Prop) (L : List Slot) (st : List Value) (M : Mm) (nc ns : Nat) : Run sa E MC MS HX Q X kX11_copy 2 L st M nc ns = bk sa E MC MS HX (Run sa E MC MS HX Q X kX11_copy) Q X kX11_copy_2 L st M nc ns := Run_eq sa E MC MS HX Q X _ _ _ _ _ _ _
theorem rX11_copy_21 (sa : Nat → Nat) (E : Nat → Sem) (MC MS : Nat) (HX : Nat → Nat → Option Nat) (Q : Option Value → Mm → Prop) (X : Nat → Mm → Prop) (L : List Slot) (st : List Value) (M : Mm) (nc ns : Nat) : Run sa E MC MS HX Q X kX11_copy 21 L st M nc ns = bk sa E MC MS HX (Run sa E MC MS HX Q X kX11_copy) Q X kX11_copy_21 L st M nc ns := Run_eq sa E MC MS HX Q X _ _ _ _ _ _ _
def kX11_cycle_0 : List Item := [(0, .iconst 0, 1, 0, 0, 0, 0, 0, [], .int 0),
    (1, .istore_n 1, 1, 4, 1, 0, 0, 0, [], .null),
    (2, .iconst 0, 1, 0, 0, 0, 0, 0, [], .int 0),
    (3, .istore_n 2, 1, 4, 2, 0, 0, 0, [], .null),
    (4, .nop, 0, 60, 4, 0, 0, 0, [], .null)]
def kX11_cycle_4 : List Item := [(4, .iload_n 2, 1, 1, 2, 0, 0, 0, [], .null),
    (5, .aload_n 0, 1, 3, 0, 0, 0, 0, [], .null),
    (6, .iconst 2, 1, 0, 0, 0, 0, 0, [], .int 2),
    (7, .iaload, 1, 31, 0, 0, 0, 0, [], .null),
    (8, .if_icmp .ge 23, 3, 21, 31, 3, 0, 0, [], .null),
    (11, .iload_n 1, 1, 1, 1, 0, 0, 0, [], .null),
    (12, .aload_n 0, 1, 3, 0, 0, 0, 0, [], .null),
    (13, .sipush 353, 3, 0, 0, 0, 0, 0, [], .int 353),
    (16, .iconst 2, 1, 0, 0, 0, 0, 0, [], .int 2),
    (17, .iload_n 2, 1, 1, 2, 0, 0, 0, [], .null),
    (18, .imul, 1, 8, 0, 2, 0, 0, [], .null),
    (19, .iadd, 1, 8, 0, 0, 0, 0, [], .null),
    (20, .iconst 1, 1, 0, 0, 0, 0, 0, [], .int 1),
    (21, .iadd, 1, 8, 0, 0, 0, 0, [], .null),
    (22, .iaload, 1, 31, 0, 0, 0, 0, [], .null),
    (23, .iadd, 1, 8, 0, 0, 0, 0, [], .null),
    (24, .istore_n 1, 1, 4, 1, 0, 0, 0, [], .null),
    (25, .iinc 2 1, 3, 7, 2, 0, 0, 0, [], .int 1),
    (28, .goto (-24), 3, 22, 4, 0, 0, 0, [], .null)]
def kX11_cycle_31 : List Item := [(31, .iload_n 1, 1, 1, 1, 0, 0, 0, [], .null),
    (32, .ireturn, 1, 56, 0, 0, 0, 0, [], .null)]
def kX11_cycle : Code9 := [(0, kX11_cycle_0), (4, kX11_cycle_4), (31, kX11_cycle_31)]
theorem rX11_cycle_0 (sa : Nat → Nat) (E : Nat → Sem) (MC MS : Nat) (HX : Nat → Nat → Option Nat) (Q : Option Value → Mm → Prop) (X : Nat → Mm → Prop) (L : List Slot) (st : List Value) (M : Mm) (nc ns : Nat) : Run sa E MC MS HX Q X kX11_cycle 0 L st M nc ns = bk sa E MC MS HX (Run sa E MC MS HX Q X kX11_cycle) Q X kX11_cycle_0 L st M nc ns := Run_eq sa E MC MS HX Q X _ _ _ _ _ _ _
theorem rX11_cycle_4 (sa : Nat → Nat) (E : Nat → Sem) (MC MS : Nat) (HX : Nat → Nat → Option Nat) (Q : Option Value → Mm → Prop) (X : Nat → Mm → Prop) (L : List Slot) (st : List Value) (M : Mm) (nc ns : Nat) : Run sa E MC MS HX Q X kX11_cycle 4 L st M nc ns = bk sa E MC MS HX (Run sa E MC MS HX Q X kX11_cycle) Q X kX11_cycle_4 L st M nc ns := Run_eq sa E MC MS HX Q X _ _ _ _ _ _ _
theorem rX11_cycle_31 (sa : Nat → Nat) (E : Nat → Sem) (MC MS : Nat) (HX : Nat → Nat → Option Nat) (Q : Option Value → Mm → Prop) (X : Nat → Mm → Prop) (L : List Slot) (st : List Value) (M : Mm) (nc ns : Nat) : Run sa E MC MS HX Q X kX11_cycle 31 L st M nc ns = bk sa E MC MS HX (Run sa E MC MS HX Q X kX11_cycle) Q X kX11_cycle_31 L st M nc ns := Run_eq sa E MC MS HX Q X _ _ _ _ _ _ _
def kX11_cycleLength_0 : List Item := [(0, .aload_n 0, 1, 3, 0, 0, 0, 0, [], .null),
    (1, .iconst 0, 1, 0, 0, 0, 0, 0, [], .int 0),
    (2, .putfield 42, 3, 27, 11, 0, 0, 0, [], .null),
    (5, .aload_n 0, 1, 3, 0, 0, 0, 0, [], .null),
    (6, .getfield 17, 3, 26, 11, 8, 0, 0, [], .null),
    (9, .invokestatic 183, 3, 48, 118, 1, 0, 0, [], .null),
    (12, .ireturn, 1, 56, 0, 0, 0, 0, [], .null)]
def kX11_cycleLength : Code9 := [(0, kX11_cycleLength_0)]
theorem rX11_cycleLength_0 (sa : Nat → Nat) (E : Nat → Sem) (MC MS : Nat) (HX : Nat → Nat → Option Nat) (Q : Option Value → Mm → Prop) (X : Nat → Mm → Prop) (L : List Slot) (st : List Value) (M : Mm) (nc ns : Nat) : Run sa E MC MS HX Q X kX11_cycleLength 0 L st M nc ns = bk sa E MC MS HX (Run sa E MC MS HX Q X kX11_cycleLength) Q X kX11_cycleLength_0 L st M nc ns := Run_eq sa E MC MS HX Q X _ _ _ _ _ _ _
def kX11_demand_0 : List Item := [(0, .iconst 0, 1, 0, 0, 0, 0, 0, [], .int 0),
    (1, .istore_n 2, 1, 4, 2, 0, 0, 0, [], .null),
    (2, .iconst 0, 1, 0, 0, 0, 0, 0, [], .int 0),
    (3, .istore_n 3, 1, 4, 3, 0, 0, 0, [], .null),
    (4, .nop, 0, 60, 4, 0, 0, 0, [], .null)]
def kX11_demand_4 : List Item := [(4, .iload_n 3, 1, 1, 3, 0, 0, 0, [], .null),
    (5, .aload_n 0, 1, 3, 0, 0, 0, 0, [], .null),
    (6, .getfield 17, 3, 26, 11, 8, 0, 0, [], .null),
    (9, .iconst 1, 1, 0, 0, 0, 0, 0, [], .int 1),
    (10, .iaload, 1, 31, 0, 0, 0, 0, [], .null),
    (11, .if_icmp .ge 38, 3, 21, 49, 3, 0, 0, [], .null),
    (14, .aload_n 0, 1, 3, 0, 0, 0, 0, [], .null),
    (15, .getfield 17, 3, 26, 11, 8, 0, 0, [], .null),
    (18, .iload_n 3, 1, 1, 3, 0, 0, 0, [], .null),
    (19, .invokestatic 140, 3, 48, 131, 1, 0, 0, [], .null),
    (22, .iconst 1, 1, 0, 0, 0, 0, 0, [], .int 1),
    (23, .iadd, 1, 8, 0, 0, 0, 0, [], .null),
    (24, .iaload, 1, 31, 0, 0, 0, 0, [], .null),
    (25, .iload_n 1, 1, 1, 1, 0, 0, 0, [], .null),
    (26, .if_icmp .ne 17, 3, 21, 43, 1, 0, 0, [], .null),
    (29, .iload_n 2, 1, 1, 2, 0, 0, 0, [], .null),
    (30, .aload_n 0, 1, 3, 0, 0, 0, 0, [], .null),
    (31, .getfield 17, 3, 26, 11, 8, 0, 0, [], .null),
    (34, .iload_n 3, 1, 1, 3, 0, 0, 0, [], .null),
    (35, .invokestatic 140, 3, 48, 131, 1, 0, 0, [], .null),
    (38, .iconst 3, 1, 0, 0, 0, 0, 0, [], .int 3),
    (39, .iadd, 1, 8, 0, 0, 0, 0, [], .null),
    (40, .iaload, 1, 31, 0, 0, 0, 0, [], .null),
    (41, .iadd, 1, 8, 0, 0, 0, 0, [], .null),
    (42, .istore_n 2, 1, 4, 2, 0, 0, 0, [], .null),
    (43, .iinc 3 1, 3, 7, 3, 0, 0, 0, [], .int 1),
    (46, .goto (-42), 3, 22, 4, 0, 0, 0, [], .null)]
def kX11_demand_43 : List Item := [(43, .iinc 3 1, 3, 7, 3, 0, 0, 0, [], .int 1),
    (46, .goto (-42), 3, 22, 4, 0, 0, 0, [], .null)]
def kX11_demand_49 : List Item := [(49, .iload_n 2, 1, 1, 2, 0, 0, 0, [], .null),
    (50, .ireturn, 1, 56, 0, 0, 0, 0, [], .null)]
def kX11_demand : Code9 := [(0, kX11_demand_0), (4, kX11_demand_4), (43, kX11_demand_43), (49, kX11_demand_49)]
theorem rX11_demand_0 (sa : Nat → Nat) (E : Nat → Sem) (MC MS : Nat) (HX : Nat → Nat → Option Nat) (Q : Option Value → Mm → Prop) (X : Nat → Mm → Prop) (L : List Slot) (st : List Value) (M : Mm) (nc ns : Nat) : Run sa E MC MS HX Q X kX11_demand 0 L st M nc ns = bk sa E MC MS HX (Run sa E MC MS HX Q X kX11_demand) Q X kX11_demand_0 L st M nc ns := Run_eq sa E MC MS HX Q X _ _ _ _ _ _ _
theorem rX11_demand_4 (sa : Nat → Nat) (E : Nat → Sem) (MC MS : Nat) (HX : Nat → Nat → Option Nat) (Q : Option Value → Mm → Prop) (X : Nat → Mm → Prop) (L : List Slot) (st : List Value) (M : Mm) (nc ns : Nat) : Run sa E MC MS HX Q X kX11_demand 4 L st M nc ns = bk sa E MC MS HX (Run sa E MC MS HX Q X kX11_demand) Q X kX11_demand_4 L st M nc ns := Run_eq sa E MC MS HX Q X _ _ _ _ _ _ _
theorem rX11_demand_43 (sa : Nat → Nat) (E : Nat → Sem) (MC MS : Nat) (HX : Nat → Nat → Option Nat) (Q : Option Value → Mm → Prop) (X : Nat → Mm → Prop) (L : List Slot) (st : List Value) (M : Mm) (nc ns : Nat) : Run sa E MC MS HX Q X kX11_demand 43 L st M nc ns = bk sa E MC MS HX (Run sa E MC MS HX Q X kX11_demand) Q X kX11_demand_43 L st M nc ns := Run_eq sa E MC MS HX Q X _ _ _ _ _ _ _
theorem rX11_demand_49 (sa : Nat → Nat) (E : Nat → Sem) (MC MS : Nat) (HX : Nat → Nat → Option Nat) (Q : Option Value → Mm → Prop) (X : Nat → Mm → Prop) (L : List Slot) (st : List Value) (M : Mm) (nc ns : Nat) : Run sa E MC MS HX Q X kX11_demand 49 L st M nc ns = bk sa E MC MS HX (Run sa E MC MS HX Q X kX11_demand) Q X kX11_demand_49 L st M nc ns := Run_eq sa E MC MS HX Q X _ _ _ _ _ _ _
def kX11_divide_0 : List Item := [(0, .iconst 0, 1, 0, 0, 0, 0, 0, [], .int 0),
    (1, .istore 4, 2, 4, 4, 0, 0, 0, [], .null),
    (3, .iconst (-1), 1, 0, 0, 0, 0, 0, [], .int (-1)),
    (4, .istore 5, 2, 4, 5, 0, 0, 0, [], .null),
    (6, .iconst 0, 1, 0, 0, 0, 0, 0, [], .int 0),
    (7, .istore 6, 2, 4, 6, 0, 0, 0, [], .null),
    (9, .aload_n 1, 1, 3, 1, 0, 0, 0, [], .null),
    (10, .iconst 0, 1, 0, 0, 0, 0, 0, [], .int 0),
    (11, .iaload, 1, 31, 0, 0, 0, 0, [], .null),
    (12, .iconst 1, 1, 0, 0, 0, 0, 0, [], .int 1),
    (13, .isub, 1, 8, 0, 1, 0, 0, [], .null),
    (14, .istore 7, 2, 4, 7, 0, 0, 0, [], .null),
    (16, .nop, 0, 60, 16, 0, 0, 0, [], .null)]
def kX11_divide_16 : List Item := [(16, .iload 7, 2, 1, 7, 0, 0, 0, [], .null),
    (18, .iload_n 2, 1, 1, 2, 0, 0, 0, [], .null),
    (19, .if_icmp .le 63, 3, 21, 82, 5, 0, 0, [], .null),
    (22, .aload_n 1, 1, 3, 1, 0, 0, 0, [], .null),
    (23, .iload 7, 2, 1, 7, 0, 0, 0, [], .null),
    (25, .invokestatic 133, 3, 48, 113, 1, 0, 0, [], .null),
    (28, .iaload, 1, 31, 0, 0, 0, 0, [], .null),
    (29, .iload_n 2, 1, 1, 2, 0, 0, 0, [], .null),
    (30, .if_icmp .ne 46, 3, 21, 76, 1, 0, 0, [], .null),
    (33, .aload_n 0, 1, 3, 0, 0, 0, 0, [], .null),
    (34, .getfield 39, 3, 26, 11, 18, 0, 0, [], .null),
    (37, .iload 7, 2, 1, 7, 0, 0, 0, [], .null),
    (39, .baload, 1, 31, 1, 0, 0, 0, [], .null),
    (40, .ifCond .ne 6, 3, 20, 46, 1, 0, 0, [], .null),
    (43, .goto 33, 3, 22, 76, 0, 0, 0, [], .null)]
def kX11_divide_46 : List Item := [(46, .iload 4, 2, 1, 4, 0, 0, 0, [], .null),
    (48, .aload_n 1, 1, 3, 1, 0, 0, 0, [], .null),
    (49, .iload 7, 2, 1, 7, 0, 0, 0, [], .null),
    (51, .invokestatic 133, 3, 48, 113, 1, 0, 0, [], .null),
    (54, .iconst 4, 1, 0, 0, 0, 0, 0, [], .int 4),
    (55, .iadd, 1, 8, 0, 0, 0, 0, [], .null),
    (56, .iaload, 1, 31, 0, 0, 0, 0, [], .null),
    (57, .iadd, 1, 8, 0, 0, 0, 0, [], .null),
    (58, .istore 4, 2, 4, 4, 0, 0, 0, [], .null),
    (60, .aload_n 1, 1, 3, 1, 0, 0, 0, [], .null),
    (61, .iload 7, 2, 1, 7, 0, 0, 0, [], .null),
    (63, .invokestatic 133, 3, 48, 113, 1, 0, 0, [], .null),
    (66, .iconst 4, 1, 0, 0, 0, 0, 0, [], .int 4),
    (67, .iadd, 1, 8, 0, 0, 0, 0, [], .null),
    (68, .iaload, 1, 31, 0, 0, 0, 0, [], .null),
    (69, .ifCond .le 7, 3, 20, 76, 5, 0, 0, [], .null),
    (72, .iload 7, 2, 1, 7, 0, 0, 0, [], .null),
    (74, .istore 5, 2, 4, 5, 0, 0, 0, [], .null),
    (76, .iinc 7 (-1), 3, 7, 7, 0, 0, 0, [], .int (-1)),
    (79, .goto (-63), 3, 22, 16, 0, 0, 0, [], .null)]
def kX11_divide_76 : List Item := [(76, .iinc 7 (-1), 3, 7, 7, 0, 0, 0, [], .int (-1)),
    (79, .goto (-63), 3, 22, 16, 0, 0, 0, [], .null)]
def kX11_divide_82 : List Item := [(82, .iload 4, 2, 1, 4, 0, 0, 0, [], .null),
    (84, .ifCond .ne 12, 3, 20, 96, 1, 0, 0, [], .null),
    (87, .aload_n 1, 1, 3, 1, 0, 0, 0, [], .null),
    (88, .bipush 9, 2, 0, 0, 0, 0, 0, [], .int 9),
    (90, .dup2, 1, 17, 0, 0, 0, 0, [], .null),
    (91, .iaload, 1, 31, 0, 0, 0, 0, [], .null),
    (92, .iload_n 3, 1, 1, 3, 0, 0, 0, [], .null),
    (93, .iadd, 1, 8, 0, 0, 0, 0, [], .null),
    (94, .iastore, 1, 35, 0, 0, 0, 0, [], .null),
    (95, .return_, 1, 55, 0, 0, 0, 0, [], .null)]
def kX11_divide_96 : List Item := [(96, .iload_n 2, 1, 1, 2, 0, 0, 0, [], .null),
    (97, .iconst 1, 1, 0, 0, 0, 0, 0, [], .int 1),
    (98, .iadd, 1, 8, 0, 0, 0, 0, [], .null),
    (99, .istore 7, 2, 4, 7, 0, 0, 0, [], .null),
    (101, .nop, 0, 60, 101, 0, 0, 0, [], .null)]
def kX11_divide_101 : List Item := [(101, .iload 7, 2, 1, 7, 0, 0, 0, [], .null),
    (103, .aload_n 1, 1, 3, 1, 0, 0, 0, [], .null),
    (104, .iconst 0, 1, 0, 0, 0, 0, 0, [], .int 0),
    (105, .iaload, 1, 31, 0, 0, 0, 0, [], .null),
    (106, .if_icmp .ge 49, 3, 21, 155, 3, 0, 0, [], .null),
    (109, .aload_n 1, 1, 3, 1, 0, 0, 0, [], .null),
    (110, .iload 7, 2, 1, 7, 0, 0, 0, [], .null),
    (112, .invokestatic 133, 3, 48, 113, 1, 0, 0, [], .null),
    (115, .iaload, 1, 31, 0, 0, 0, 0, [], .null),
    (116, .iload_n 2, 1, 1, 2, 0, 0, 0, [], .null),
    (117, .if_icmp .ne 32, 3, 21, 149, 1, 0, 0, [], .null),
    (120, .aload_n 0, 1, 3, 0, 0, 0, 0, [], .null),
    (121, .getfield 39, 3, 26, 11, 18, 0, 0, [], .null),
    (124, .iload 7, 2, 1, 7, 0, 0, 0, [], .null),
    (126, .baload, 1, 31, 1, 0, 0, 0, [], .null),
    (127, .ifCond .eq 22, 3, 20, 149, 0, 0, 0, [], .null),
    (130, .iload 6, 2, 1, 6, 0, 0, 0, [], .null),
    (132, .iload_n 3, 1, 1, 3, 0, 0, 0, [], .null),
    (133, .aload_n 1, 1, 3, 1, 0, 0, 0, [], .null),
    (134, .iload 7, 2, 1, 7, 0, 0, 0, [], .null),
    (136, .invokestatic 133, 3, 48, 113, 1, 0, 0, [], .null),
    (139, .iconst 4, 1, 0, 0, 0, 0, 0, [], .int 4),
    (140, .iadd, 1, 8, 0, 0, 0, 0, [], .null),
    (141, .iaload, 1, 31, 0, 0, 0, 0, [], .null),
    (142, .imul, 1, 8, 0, 2, 0, 0, [], .null),
    (143, .iload 4, 2, 1, 4, 0, 0, 0, [], .null),
    (145, .idiv, 1, 9, 0, 0, 0, 0, [], .null),
    (146, .iadd, 1, 8, 0, 0, 0, 0, [], .null),
    (147, .istore 6, 2, 4, 6, 0, 0, 0, [], .null),
    (149, .iinc 7 1, 3, 7, 7, 0, 0, 0, [], .int 1),
    (152, .goto (-51), 3, 22, 101, 0, 0, 0, [], .null)]
def kX11_divide_149 : List Item := [(149, .iinc 7 1, 3, 7, 7, 0, 0, 0, [], .int 1),
    (152, .goto (-51), 3, 22, 101, 0, 0, 0, [], .null)]
def kX11_divide_155 : List Item := [(155, .iload_n 2, 1, 1, 2, 0, 0, 0, [], .null),
    (156, .iconst 1, 1, 0, 0, 0, 0, 0, [], .int 1),
    (157, .iadd, 1, 8, 0, 0, 0, 0, [], .null),
    (158, .istore 7, 2, 4, 7, 0, 0, 0, [], .null),
    (160, .nop, 0, 60, 160, 0, 0, 0, [], .null)]
def kX11_divide_160 : List Item := [(160, .iload 7, 2, 1, 7, 0, 0, 0, [], .null),
    (162, .aload_n 1, 1, 3, 1, 0, 0, 0, [], .null),
    (163, .iconst 0, 1, 0, 0, 0, 0, 0, [], .int 0),
    (164, .iaload, 1, 31, 0, 0, 0, 0, [], .null),
    (165, .if_icmp .ge 66, 3, 21, 231, 3, 0, 0, [], .null),
    (168, .aload_n 1, 1, 3, 1, 0, 0, 0, [], .null),
    (169, .iload 7, 2, 1, 7, 0, 0, 0, [], .null),
    (171, .invokestatic 133, 3, 48, 113, 1, 0, 0, [], .null),
    (174, .iaload, 1, 31, 0, 0, 0, 0, [], .null),
    (175, .iload_n 2, 1, 1, 2, 0, 0, 0, [], .null),
    (176, .if_icmp .ne 49, 3, 21, 225, 1, 0, 0, [], .null),
    (179, .aload_n 0, 1, 3, 0, 0, 0, 0, [], .null),
    (180, .getfield 39, 3, 26, 11, 18, 0, 0, [], .null),
    (183, .iload 7, 2, 1, 7, 0, 0, 0, [], .null),
    (185, .baload, 1, 31, 1, 0, 0, 0, [], .null),
    (186, .ifCond .eq 39, 3, 20, 225, 0, 0, 0, [], .null),
    (189, .aload_n 1, 1, 3, 1, 0, 0, 0, [], .null),
    (190, .iload 7, 2, 1, 7, 0, 0, 0, [], .null),
    (192, .iload_n 3, 1, 1, 3, 0, 0, 0, [], .null),
    (193, .aload_n 1, 1, 3, 1, 0, 0, 0, [], .null),
    (194, .iload 7, 2, 1, 7, 0, 0, 0, [], .null),
    (196, .invokestatic 133, 3, 48, 113, 1, 0, 0, [], .null),
    (199, .iconst 4, 1, 0, 0, 0, 0, 0, [], .int 4),
    (200, .iadd, 1, 8, 0, 0, 0, 0, [], .null),
    (201, .iaload, 1, 31, 0, 0, 0, 0, [], .null),
    (202, .imul, 1, 8, 0, 2, 0, 0, [], .null),
    (203, .iload 4, 2, 1, 4, 0, 0, 0, [], .null),
    (205, .idiv, 1, 9, 0, 0, 0, 0, [], .null),
    (206, .iload 7, 2, 1, 7, 0, 0, 0, [], .null),
    (208, .iload 5, 2, 1, 5, 0, 0, 0, [], .null),
    (210, .if_icmp .ne 10, 3, 21, 220, 1, 0, 0, [], .null),
    (213, .iload_n 3, 1, 1, 3, 0, 0, 0, [], .null),
    (214, .iload 6, 2, 1, 6, 0, 0, 0, [], .null),
    (216, .isub, 1, 8, 0, 1, 0, 0, [], .null),
    (217, .goto 4, 3, 22, 221, 0, 0, 0, [], .null)]
def kX11_divide_220 : List Item := [(220, .iconst 0, 1, 0, 0, 0, 0, 0, [], .int 0),
    (221, .iadd, 1, 8, 0, 0, 0, 0, [], .null),
    (222, .invokestatic 214, 3, 48, 124, 3, 0, 0, [], .null),
    (225, .iinc 7 1, 3, 7, 7, 0, 0, 0, [], .int 1),
    (228, .goto (-68), 3, 22, 160, 0, 0, 0, [], .null)]
def kX11_divide_221 : List Item := [(221, .iadd, 1, 8, 0, 0, 0, 0, [], .null),
    (222, .invokestatic 214, 3, 48, 124, 3, 0, 0, [], .null),
    (225, .iinc 7 1, 3, 7, 7, 0, 0, 0, [], .int 1),
    (228, .goto (-68), 3, 22, 160, 0, 0, 0, [], .null)]
def kX11_divide_225 : List Item := [(225, .iinc 7 1, 3, 7, 7, 0, 0, 0, [], .int 1),
    (228, .goto (-68), 3, 22, 160, 0, 0, 0, [], .null)]
def kX11_divide_231 : List Item := [(231, .return_, 1, 55, 0, 0, 0, 0, [], .null)]
def kX11_divide : Code9 := [(0, kX11_divide_0), (16, kX11_divide_16), (46, kX11_divide_46), (76, kX11_divide_76), (82, kX11_divide_82), (96, kX11_divide_96), (101, kX11_divide_101), (149, kX11_divide_149), (155, kX11_divide_155), (160, kX11_divide_160), (220, kX11_divide_220), (221, kX11_divide_221), (225, kX11_divide_225), (231, kX11_divide_231)]
theorem rX11_divide_0 (sa : Nat → Nat) (E : Nat → Sem) (MC MS : Nat) (HX : Nat → Nat → Option Nat) (Q : Option Value → Mm → Prop) (X : Nat → Mm → Prop) (L : List Slot) (st : List Value) (M : Mm) (nc ns : Nat) : Run sa E MC MS HX Q X kX11_divide 0 L st M nc ns = bk sa E MC MS HX (Run sa E MC MS HX Q X kX11_divide) Q X kX11_divide_0 L st M nc ns := Run_eq sa E MC MS HX Q X _ _ _ _ _ _ _
theorem rX11_divide_16 (sa : Nat → Nat) (E : Nat → Sem) (MC MS : Nat) (HX : Nat → Nat → Option Nat) (Q : Option Value → Mm → Prop) (X : Nat → Mm → Prop) (L : List Slot) (st : List Value) (M : Mm) (nc ns : Nat) : Run sa E MC MS HX Q X kX11_divide 16 L st M nc ns = bk sa E MC MS HX (Run sa E MC MS HX Q X kX11_divide) Q X kX11_divide_16 L st M nc ns := Run_eq sa E MC MS HX Q X _ _ _ _ _ _ _
theorem rX11_divide_46 (sa : Nat → Nat) (E : Nat → Sem) (MC MS : Nat) (HX : Nat → Nat → Option Nat) (Q : Option Value → Mm → Prop) (X : Nat → Mm → Prop) (L : List Slot) (st : List Value) (M : Mm) (nc ns : Nat) : Run sa E MC MS HX Q X kX11_divide 46 L st M nc ns = bk sa E MC MS HX (Run sa E MC MS HX Q X kX11_divide) Q X kX11_divide_46 L st M nc ns := Run_eq sa E MC MS HX Q X _ _ _ _ _ _ _
theorem rX11_divide_76 (sa : Nat → Nat) (E : Nat → Sem) (MC MS : Nat) (HX : Nat → Nat → Option Nat) (Q : Option Value → Mm → Prop) (X : Nat → Mm → Prop) (L : List Slot) (st : List Value) (M : Mm) (nc ns : Nat) : Run sa E MC MS HX Q X kX11_divide 76 L st M nc ns = bk sa E MC MS HX (Run sa E MC MS HX Q X kX11_divide) Q X kX11_divide_76 L st M nc ns := Run_eq sa E MC MS HX Q X _ _ _ _ _ _ _
theorem rX11_divide_82 (sa : Nat → Nat) (E : Nat → Sem) (MC MS : Nat) (HX : Nat → Nat → Option Nat) (Q : Option Value → Mm → Prop) (X : Nat → Mm → Prop) (L : List Slot) (st : List Value) (M : Mm) (nc ns : Nat) : Run sa E MC MS HX Q X kX11_divide 82 L st M nc ns = bk sa E MC MS HX (Run sa E MC MS HX Q X kX11_divide) Q X kX11_divide_82 L st M nc ns := Run_eq sa E MC MS HX Q X _ _ _ _ _ _ _
theorem rX11_divide_96 (sa : Nat → Nat) (E : Nat → Sem) (MC MS : Nat) (HX : Nat → Nat → Option Nat) (Q : Option Value → Mm → Prop) (X : Nat → Mm → Prop) (L : List Slot) (st : List Value) (M : Mm) (nc ns : Nat) : Run sa E MC MS HX Q X kX11_divide 96 L st M nc ns = bk sa E MC MS HX (Run sa E MC MS HX Q X kX11_divide) Q X kX11_divide_96 L st M nc ns := Run_eq sa E MC MS HX Q X _ _ _ _ _ _ _
theorem rX11_divide_101 (sa : Nat → Nat) (E : Nat → Sem) (MC MS : Nat) (HX : Nat → Nat → Option Nat) (Q : Option Value → Mm → Prop) (X : Nat → Mm → Prop) (L : List Slot) (st : List Value) (M : Mm) (nc ns : Nat) : Run sa E MC MS HX Q X kX11_divide 101 L st M nc ns = bk sa E MC MS HX (Run sa E MC MS HX Q X kX11_divide) Q X kX11_divide_101 L st M nc ns := Run_eq sa E MC MS HX Q X _ _ _ _ _ _ _
theorem rX11_divide_149 (sa : Nat → Nat) (E : Nat → Sem) (MC MS : Nat) (HX : Nat → Nat → Option Nat) (Q : Option Value → Mm → Prop) (X : Nat → Mm → Prop) (L : List Slot) (st : List Value) (M : Mm) (nc ns : Nat) : Run sa E MC MS HX Q X kX11_divide 149 L st M nc ns = bk sa E MC MS HX (Run sa E MC MS HX Q X kX11_divide) Q X kX11_divide_149 L st M nc ns := Run_eq sa E MC MS HX Q X _ _ _ _ _ _ _
theorem rX11_divide_155 (sa : Nat → Nat) (E : Nat → Sem) (MC MS : Nat) (HX : Nat → Nat → Option Nat) (Q : Option Value → Mm → Prop) (X : Nat → Mm → Prop) (L : List Slot) (st : List Value) (M : Mm) (nc ns : Nat) : Run sa E MC MS HX Q X kX11_divide 155 L st M nc ns = bk sa E MC MS HX (Run sa E MC MS HX Q X kX11_divide) Q X kX11_divide_155 L st M nc ns := Run_eq sa E MC MS HX Q X _ _ _ _ _ _ _
theorem rX11_divide_160 (sa : Nat → Nat) (E : Nat → Sem) (MC MS : Nat) (HX : Nat → Nat → Option Nat) (Q : Option Value → Mm → Prop) (X : Nat → Mm → Prop) (L : List Slot) (st : List Value) (M : Mm) (nc ns : Nat) : Run sa E MC MS HX Q X kX11_divide 160 L st M nc ns = bk sa E MC MS HX (Run sa E MC MS HX Q X kX11_divide) Q X kX11_divide_160 L st M nc ns := Run_eq sa E MC MS HX Q X _ _ _ _ _ _ _
theorem rX11_divide_220 (sa : Nat → Nat) (E : Nat → Sem) (MC MS : Nat) (HX : Nat → Nat → Option Nat) (Q : Option Value → Mm → Prop) (X : Nat → Mm → Prop) (L : List Slot) (st : List Value) (M : Mm) (nc ns : Nat) : Run sa E MC MS HX Q X kX11_divide 220 L st M nc ns = bk sa E MC MS HX (Run sa E MC MS HX Q X kX11_divide) Q X kX11_divide_220 L st M nc ns := Run_eq sa E MC MS HX Q X _ _ _ _ _ _ _
theorem rX11_divide_221 (sa : Nat → Nat) (E : Nat → Sem) (MC MS : Nat) (HX : Nat → Nat → Option Nat) (Q : Option Value → Mm → Prop) (X : Nat → Mm → Prop) (L : List Slot) (st : List Value) (M : Mm) (nc ns : Nat) : Run sa E MC MS HX Q X kX11_divide 221 L st M nc ns = bk sa E MC MS HX (Run sa E MC MS HX Q X kX11_divide) Q X kX11_divide_221 L st M nc ns := Run_eq sa E MC MS HX Q X _ _ _ _ _ _ _
theorem rX11_divide_225 (sa : Nat → Nat) (E : Nat → Sem) (MC MS : Nat) (HX : Nat → Nat → Option Nat) (Q : Option Value → Mm → Prop) (X : Nat → Mm → Prop) (L : List Slot) (st : List Value) (M : Mm) (nc ns : Nat) : Run sa E MC MS HX Q X kX11_divide 225 L st M nc ns = bk sa E MC MS HX (Run sa E MC MS HX Q X kX11_divide) Q X kX11_divide_225 L st M nc ns := Run_eq sa E MC MS HX Q X _ _ _ _ _ _ _
theorem rX11_divide_231 (sa : Nat → Nat) (E : Nat → Sem) (MC MS : Nat) (HX : Nat → Nat → Option Nat) (Q : Option Value → Mm → Prop) (X : Nat → Mm → Prop) (L : List Slot) (st : List Value) (M : Mm) (nc ns : Nat) : Run sa E MC MS HX Q X kX11_divide 231 L st M nc ns = bk sa E MC MS HX (Run sa E MC MS HX Q X kX11_divide) Q X kX11_divide_231 L st M nc ns := Run_eq sa E MC MS HX Q X _ _ _ _ _ _ _
def kX11_drain_0 : List Item := [(0, .iload_n 1, 1, 1, 1, 0, 0, 0, [], .null),
    (1, .invokestatic 140, 3, 48, 131, 1, 0, 0, [], .null),
    (4, .istore_n 2, 1, 4, 2, 0, 0, 0, [], .null),
    (5, .aload_n 0, 1, 3, 0, 0, 0, 0, [], .null),
    (6, .iload_n 2, 1, 1, 2, 0, 0, 0, [], .null),
    (7, .iconst 5, 1, 0, 0, 0, 0, 0, [], .int 5),
    (8, .iadd, 1, 8, 0, 0, 0, 0, [], .null),
    (9, .iaload, 1, 31, 0, 0, 0, 0, [], .null),
    (10, .aload_n 0, 1, 3, 0, 0, 0, 0, [], .null),
    (11, .iload_n 2, 1, 1, 2, 0, 0, 0, [], .null),
    (12, .bipush 7, 2, 0, 0, 0, 0, 0, [], .int 7),
    (14, .iadd, 1, 8, 0, 0, 0, 0, [], .null),
    (15, .iaload, 1, 31, 0, 0, 0, 0, [], .null),
    (16, .invokestatic 97, 3, 48, 150, 2, 0, 0, [], .null),
    (19, .istore_n 3, 1, 4, 3, 0, 0, 0, [], .null),
    (20, .aload_n 0, 1, 3, 0, 0, 0, 0, [], .null),
    (21, .iload_n 2, 1, 1, 2, 0, 0, 0, [], .null),
    (22, .bipush 7, 2, 0, 0, 0, 0, 0, [], .int 7),
    (24, .iadd, 1, 8, 0, 0, 0, 0, [], .null),
    (25, .dup2, 1, 17, 0, 0, 0, 0, [], .null),
    (26, .iaload, 1, 31, 0, 0, 0, 0, [], .null),
    (27, .iload_n 3, 1, 1, 3, 0, 0, 0, [], .null),
    (28, .isub, 1, 8, 0, 1, 0, 0, [], .null),
    (29, .iastore, 1, 35, 0, 0, 0, 0, [], .null),
    (30, .aload_n 0, 1, 3, 0, 0, 0, 0, [], .null),
    (31, .bipush 11, 2, 0, 0, 0, 0, 0, [], .int 11),
    (33, .dup2, 1, 17, 0, 0, 0, 0, [], .null),
    (34, .iaload, 1, 31, 0, 0, 0, 0, [], .null),
    (35, .iload_n 3, 1, 1, 3, 0, 0, 0, [], .null),
    (36, .iadd, 1, 8, 0, 0, 0, 0, [], .null),
    (37, .iastore, 1, 35, 0, 0, 0, 0, [], .null),
    (38, .aload_n 0, 1, 3, 0, 0, 0, 0, [], .null),
    (39, .iload_n 2, 1, 1, 2, 0, 0, 0, [], .null),
    (40, .bipush 7, 2, 0, 0, 0, 0, 0, [], .int 7),
    (42, .iadd, 1, 8, 0, 0, 0, 0, [], .null),
    (43, .iaload, 1, 31, 0, 0, 0, 0, [], .null),
    (44, .aload_n 0, 1, 3, 0, 0, 0, 0, [], .null),
    (45, .iload_n 2, 1, 1, 2, 0, 0, 0, [], .null),
    (46, .iconst 4, 1, 0, 0, 0, 0, 0, [], .int 4),
    (47, .iadd, 1, 8, 0, 0, 0, 0, [], .null),
    (48, .iaload, 1, 31, 0, 0, 0, 0, [], .null),
    (49, .isub, 1, 8, 0, 1, 0, 0, [], .null),
    (50, .istore 4, 2, 4, 4, 0, 0, 0, [], .null),
    (52, .iload 4, 2, 1, 4, 0, 0, 0, [], .null),
    (54, .ifCond .gt 4, 3, 20, 58, 4, 0, 0, [], .null),
    (57, .return_, 1, 55, 0, 0, 0, 0, [], .null)]
def kX11_drain_58 : List Item := [(58, .aload_n 0, 1, 3, 0, 0, 0, 0, [], .null),
    (59, .iload_n 2, 1, 1, 2, 0, 0, 0, [], .null),
    (60, .bipush 7, 2, 0, 0, 0, 0, 0, [], .int 7),
    (62, .iadd, 1, 8, 0, 0, 0, 0, [], .null),
    (63, .dup2, 1, 17, 0, 0, 0, 0, [], .null),
    (64, .iaload, 1, 31, 0, 0, 0, 0, [], .null),
    (65, .iload 4, 2, 1, 4, 0, 0, 0, [], .null),
    (67, .isub, 1, 8, 0, 1, 0, 0, [], .null),
    (68, .iastore, 1, 35, 0, 0, 0, 0, [], .null),
    (69, .aload_n 0, 1, 3, 0, 0, 0, 0, [], .null),
    (70, .iload_n 2, 1, 1, 2, 0, 0, 0, [], .null),
    (71, .bipush 6, 2, 0, 0, 0, 0, 0, [], .int 6),
    (73, .iadd, 1, 8, 0, 0, 0, 0, [], .null),
    (74, .iaload, 1, 31, 0, 0, 0, 0, [], .null),
    (75, .ifCond .ge 15, 3, 20, 90, 3, 0, 0, [], .null),
    (78, .aload_n 0, 1, 3, 0, 0, 0, 0, [], .null),
    (79, .bipush 9, 2, 0, 0, 0, 0, 0, [], .int 9),
    (81, .dup2, 1, 17, 0, 0, 0, 0, [], .null),
    (82, .iaload, 1, 31, 0, 0, 0, 0, [], .null),
    (83, .iload 4, 2, 1, 4, 0, 0, 0, [], .null),
    (85, .iadd, 1, 8, 0, 0, 0, 0, [], .null),
    (86, .iastore, 1, 35, 0, 0, 0, 0, [], .null),
    (87, .goto 22, 3, 22, 109, 0, 0, 0, [], .null)]
def kX11_drain_90 : List Item := [(90, .aload_n 0, 1, 3, 0, 0, 0, 0, [], .null),
    (91, .aload_n 0, 1, 3, 0, 0, 0, 0, [], .null),
    (92, .iload_n 2, 1, 1, 2, 0, 0, 0, [], .null),
    (93, .bipush 6, 2, 0, 0, 0, 0, 0, [], .int 6),
    (95, .iadd, 1, 8, 0, 0, 0, 0, [], .null),
    (96, .iaload, 1, 31, 0, 0, 0, 0, [], .null),
    (97, .invokestatic 140, 3, 48, 131, 1, 0, 0, [], .null),
    (100, .bipush 7, 2, 0, 0, 0, 0, 0, [], .int 7),
    (102, .iadd, 1, 8, 0, 0, 0, 0, [], .null),
    (103, .dup2, 1, 17, 0, 0, 0, 0, [], .null),
    (104, .iaload, 1, 31, 0, 0, 0, 0, [], .null),
    (105, .iload 4, 2, 1, 4, 0, 0, 0, [], .null),
    (107, .iadd, 1, 8, 0, 0, 0, 0, [], .null),
    (108, .iastore, 1, 35, 0, 0, 0, 0, [], .null),
    (109, .return_, 1, 55, 0, 0, 0, 0, [], .null)]
def kX11_drain_109 : List Item := [(109, .return_, 1, 55, 0, 0, 0, 0, [], .null)]
def kX11_drain : Code9 := [(0, kX11_drain_0), (58, kX11_drain_58), (90, kX11_drain_90), (109, kX11_drain_109)]
theorem rX11_drain_0 (sa : Nat → Nat) (E : Nat → Sem) (MC MS : Nat) (HX : Nat → Nat → Option Nat) (Q : Option Value → Mm → Prop) (X : Nat → Mm → Prop) (L : List Slot) (st : List Value) (M : Mm) (nc ns : Nat) : Run sa E MC MS HX Q X kX11_drain 0 L st M nc ns = bk sa E MC MS HX (Run sa E MC MS HX Q X kX11_drain) Q X kX11_drain_0 L st M nc ns := Run_eq sa E MC MS HX Q X _ _ _ _ _ _ _
theorem rX11_drain_58 (sa : Nat → Nat) (E : Nat → Sem) (MC MS : Nat) (HX : Nat → Nat → Option Nat) (Q : Option Value → Mm → Prop) (X : Nat → Mm → Prop) (L : List Slot) (st : List Value) (M : Mm) (nc ns : Nat) : Run sa E MC MS HX Q X kX11_drain 58 L st M nc ns = bk sa E MC MS HX (Run sa E MC MS HX Q X kX11_drain) Q X kX11_drain_58 L st M nc ns := Run_eq sa E MC MS HX Q X _ _ _ _ _ _ _
theorem rX11_drain_90 (sa : Nat → Nat) (E : Nat → Sem) (MC MS : Nat) (HX : Nat → Nat → Option Nat) (Q : Option Value → Mm → Prop) (X : Nat → Mm → Prop) (L : List Slot) (st : List Value) (M : Mm) (nc ns : Nat) : Run sa E MC MS HX Q X kX11_drain 90 L st M nc ns = bk sa E MC MS HX (Run sa E MC MS HX Q X kX11_drain) Q X kX11_drain_90 L st M nc ns := Run_eq sa E MC MS HX Q X _ _ _ _ _ _ _
theorem rX11_drain_109 (sa : Nat → Nat) (E : Nat → Sem) (MC MS : Nat) (HX : Nat → Nat → Option Nat) (Q : Option Value → Mm → Prop) (X : Nat → Mm → Prop) (L : List Slot) (st : List Value) (M : Mm) (nc ns : Nat) : Run sa E MC MS HX Q X kX11_drain 109 L st M nc ns = bk sa E MC MS HX (Run sa E MC MS HX Q X kX11_drain) Q X kX11_drain_109 L st M nc ns := Run_eq sa E MC MS HX Q X _ _ _ _ _ _ _
def kX11_emit_0 : List Item := [(0, .aload_n 0, 1, 3, 0, 0, 0, 0, [], .null),
    (1, .invokevirtual 68, 3, 48, 146, 1, 0, 0, [11], .null),
    (4, .ifCond .ne 4, 3, 20, 8, 1, 0, 0, [], .null),
    (7, .return_, 1, 55, 0, 0, 0, 0, [], .null)]
def kX11_emit_8 : List Item := [(8, .aload_n 0, 1, 3, 0, 0, 0, 0, [], .null),
    (9, .getfield 20, 3, 26, 11, 9, 0, 0, [], .null),
    (12, .sipush 393, 3, 0, 0, 0, 0, 0, [], .int 393),
    (15, .aload_n 0, 1, 3, 0, 0, 0, 0, [], .null),
    (16, .getfield 20, 3, 26, 11, 9, 0, 0, [], .null),
    (19, .bipush 7, 2, 0, 0, 0, 0, 0, [], .int 7),
    (21, .iaload, 1, 31, 0, 0, 0, 0, [], .null),
    (22, .iadd, 1, 8, 0, 0, 0, 0, [], .null),
    (23, .iload_n 1, 1, 1, 1, 0, 0, 0, [], .null),
    (24, .iastore, 1, 35, 0, 0, 0, 0, [], .null),
    (25, .aload_n 0, 1, 3, 0, 0, 0, 0, [], .null),
    (26, .getfield 20, 3, 26, 11, 9, 0, 0, [], .null),
    (29, .bipush 7, 2, 0, 0, 0, 0, 0, [], .int 7),
    (31, .dup2, 1, 17, 0, 0, 0, 0, [], .null),
    (32, .iaload, 1, 31, 0, 0, 0, 0, [], .null),
    (33, .iconst 1, 1, 0, 0, 0, 0, 0, [], .int 1),
    (34, .iadd, 1, 8, 0, 0, 0, 0, [], .null),
    (35, .iastore, 1, 35, 0, 0, 0, 0, [], .null),
    (36, .return_, 1, 55, 0, 0, 0, 0, [], .null)]
def kX11_emit : Code9 := [(0, kX11_emit_0), (8, kX11_emit_8)]
theorem rX11_emit_0 (sa : Nat → Nat) (E : Nat → Sem) (MC MS : Nat) (HX : Nat → Nat → Option Nat) (Q : Option Value → Mm → Prop) (X : Nat → Mm → Prop) (L : List Slot) (st : List Value) (M : Mm) (nc ns : Nat) : Run sa E MC MS HX Q X kX11_emit 0 L st M nc ns = bk sa E MC MS HX (Run sa E MC MS HX Q X kX11_emit) Q X kX11_emit_0 L st M nc ns := Run_eq sa E MC MS HX Q X _ _ _ _ _ _ _
theorem rX11_emit_8 (sa : Nat → Nat) (E : Nat → Sem) (MC MS : Nat) (HX : Nat → Nat → Option Nat) (Q : Option Value → Mm → Prop) (X : Nat → Mm → Prop) (L : List Slot) (st : List Value) (M : Mm) (nc ns : Nat) : Run sa E MC MS HX Q X kX11_emit 8 L st M nc ns = bk sa E MC MS HX (Run sa E MC MS HX Q X kX11_emit) Q X kX11_emit_8 L st M nc ns := Run_eq sa E MC MS HX Q X _ _ _ _ _ _ _
def kX11_enter_0 : List Item := [(0, .iload_n 1, 1, 1, 1, 0, 0, 0, [], .null),
    (1, .invokestatic 133, 3, 48, 113, 1, 0, 0, [], .null),
    (4, .istore_n 3, 1, 4, 3, 0, 0, 0, [], .null),
    (5, .iload_n 2, 1, 1, 2, 0, 0, 0, [], .null),
    (6, .aload_n 0, 1, 3, 0, 0, 0, 0, [], .null),
    (7, .iload_n 3, 1, 1, 3, 0, 0, 0, [], .null),
    (8, .iconst 3, 1, 0, 0, 0, 0, 0, [], .int 3),
    (9, .iadd, 1, 8, 0, 0, 0, 0, [], .null),
    (10, .iaload, 1, 31, 0, 0, 0, 0, [], .null),
    (11, .invokestatic 97, 3, 48, 150, 2, 0, 0, [], .null),
    (14, .istore 4, 2, 4, 4, 0, 0, 0, [], .null),
    (16, .iload 4, 2, 1, 4, 0, 0, 0, [], .null),
    (18, .aload_n 0, 1, 3, 0, 0, 0, 0, [], .null),
    (19, .iload_n 3, 1, 1, 3, 0, 0, 0, [], .null),
    (20, .iconst 2, 1, 0, 0, 0, 0, 0, [], .int 2),
    (21, .iadd, 1, 8, 0, 0, 0, 0, [], .null),
    (22, .iaload, 1, 31, 0, 0, 0, 0, [], .null),
    (23, .imul, 1, 8, 0, 2, 0, 0, [], .null),
    (24, .bipush 100, 2, 0, 0, 0, 0, 0, [], .int 100),
    (26, .idiv, 1, 9, 0, 0, 0, 0, [], .null),
    (27, .istore 5, 2, 4, 5, 0, 0, 0, [], .null),
    (29, .aload_n 0, 1, 3, 0, 0, 0, 0, [], .null),
    (30, .bipush 9, 2, 0, 0, 0, 0, 0, [], .int 9),
    (32, .dup2, 1, 17, 0, 0, 0, 0, [], .null),
    (33, .iaload, 1, 31, 0, 0, 0, 0, [], .null),
    (34, .iload_n 2, 1, 1, 2, 0, 0, 0, [], .null),
    (35, .iload 4, 2, 1, 4, 0, 0, 0, [], .null),
    (37, .isub, 1, 8, 0, 1, 0, 0, [], .null),
    (38, .iadd, 1, 8, 0, 0, 0, 0, [], .null),
    (39, .iastore, 1, 35, 0, 0, 0, 0, [], .null),
    (40, .aload_n 0, 1, 3, 0, 0, 0, 0, [], .null),
    (41, .bipush 10, 2, 0, 0, 0, 0, 0, [], .int 10),
    (43, .dup2, 1, 17, 0, 0, 0, 0, [], .null),
    (44, .iaload, 1, 31, 0, 0, 0, 0, [], .null),
    (45, .iload 5, 2, 1, 5, 0, 0, 0, [], .null),
    (47, .iadd, 1, 8, 0, 0, 0, 0, [], .null),
    (48, .iastore, 1, 35, 0, 0, 0, 0, [], .null),
    (49, .aload_n 0, 1, 3, 0, 0, 0, 0, [], .null),
    (50, .iload_n 3, 1, 1, 3, 0, 0, 0, [], .null),
    (51, .bipush 6, 2, 0, 0, 0, 0, 0, [], .int 6),
    (53, .iadd, 1, 8, 0, 0, 0, 0, [], .null),
    (54, .aload_n 0, 1, 3, 0, 0, 0, 0, [], .null),
    (55, .iload_n 3, 1, 1, 3, 0, 0, 0, [], .null),
    (56, .iconst 1, 1, 0, 0, 0, 0, 0, [], .int 1),
    (57, .iadd, 1, 8, 0, 0, 0, 0, [], .null),
    (58, .iaload, 1, 31, 0, 0, 0, 0, [], .null),
    (59, .iadd, 1, 8, 0, 0, 0, 0, [], .null),
    (60, .dup2, 1, 17, 0, 0, 0, 0, [], .null),
    (61, .iaload, 1, 31, 0, 0, 0, 0, [], .null),
    (62, .iload 4, 2, 1, 4, 0, 0, 0, [], .null),
    (64, .iload 5, 2, 1, 5, 0, 0, 0, [], .null),
    (66, .isub, 1, 8, 0, 1, 0, 0, [], .null),
    (67, .iadd, 1, 8, 0, 0, 0, 0, [], .null),
    (68, .iastore, 1, 35, 0, 0, 0, 0, [], .null),
    (69, .return_, 1, 55, 0, 0, 0, 0, [], .null)]
def kX11_enter : Code9 := [(0, kX11_enter_0)]
theorem rX11_enter_0 (sa : Nat → Nat) (E : Nat → Sem) (MC MS : Nat) (HX : Nat → Nat → Option Nat) (Q : Option Value → Mm → Prop) (X : Nat → Mm → Prop) (L : List Slot) (st : List Value) (M : Mm) (nc ns : Nat) : Run sa E MC MS HX Q X kX11_enter 0 L st M nc ns = bk sa E MC MS HX (Run sa E MC MS HX Q X kX11_enter) Q X kX11_enter_0 L st M nc ns := Run_eq sa E MC MS HX Q X _ _ _ _ _ _ _
def kX11_errorOffset_0 : List Item := [(0, .aload_n 0, 1, 3, 0, 0, 0, 0, [], .null),
    (1, .iconst 0, 1, 0, 0, 0, 0, 0, [], .int 0),
    (2, .putfield 42, 3, 27, 11, 0, 0, 0, [], .null),
    (5, .aload_n 0, 1, 3, 0, 0, 0, 0, [], .null),
    (6, .getfield 13, 3, 24, 11, 7, 0, 0, [], .null),
    (9, .ireturn, 1, 56, 0, 0, 0, 0, [], .null)]
def kX11_errorOffset : Code9 := [(0, kX11_errorOffset_0)]
theorem rX11_errorOffset_0 (sa : Nat → Nat) (E : Nat → Sem) (MC MS : Nat) (HX : Nat → Nat → Option Nat) (Q : Option Value → Mm → Prop) (X : Nat → Mm → Prop) (L : List Slot) (st : List Value) (M : Mm) (nc ns : Nat) : Run sa E MC MS HX Q X kX11_errorOffset 0 L st M nc ns = bk sa E MC MS HX (Run sa E MC MS HX Q X kX11_errorOffset) Q X kX11_errorOffset_0 L st M nc ns := Run_eq sa E MC MS HX Q X _ _ _ _ _ _ _
def kX11_expect_0 : List Item := [(0, .aload_n 0, 1, 3, 0, 0, 0, 0, [], .null),
    (1, .invokevirtual 68, 3, 48, 146, 1, 0, 0, [11], .null),
    (4, .ifCond .ne 4, 3, 20, 8, 1, 0, 0, [], .null),
    (7, .return_, 1, 55, 0, 0, 0, 0, [], .null)]
def kX11_expect_8 : List Item := [(8, .aload_n 0, 1, 3, 0, 0, 0, 0, [], .null),
    (9, .invokevirtual 72, 3, 48, 151, 1, 0, 0, [11], .null),
    (12, .iload_n 1, 1, 1, 1, 0, 0, 0, [], .null),
    (13, .if_icmp .ne 16, 3, 21, 29, 1, 0, 0, [], .null),
    (16, .aload_n 0, 1, 3, 0, 0, 0, 0, [], .null),
    (17, .dup, 1, 16, 0, 0, 0, 0, [], .null),
    (18, .getfield 51, 3, 24, 11, 4, 0, 0, [], .null),
    (21, .iconst 1, 1, 0, 0, 0, 0, 0, [], .int 1),
    (22, .iadd, 1, 8, 0, 0, 0, 0, [], .null),
    (23, .putfield 51, 3, 27, 11, 4, 0, 0, [], .null),
    (26, .goto 13, 3, 22, 39, 0, 0, 0, [], .null)]
def kX11_expect_29 : List Item := [(29, .aload_n 0, 1, 3, 0, 0, 0, 0, [], .null),
    (30, .bipush (-2), 2, 0, 0, 0, 0, 0, [], .int (-2)),
    (32, .aload_n 0, 1, 3, 0, 0, 0, 0, [], .null),
    (33, .getfield 51, 3, 24, 11, 4, 0, 0, [], .null),
    (36, .invokevirtual 85, 3, 48, 166, 3, 0, 0, [11], .null),
    (39, .return_, 1, 55, 0, 0, 0, 0, [], .null)]
def kX11_expect_39 : List Item := [(39, .return_, 1, 55, 0, 0, 0, 0, [], .null)]
def kX11_expect : Code9 := [(0, kX11_expect_0), (8, kX11_expect_8), (29, kX11_expect_29), (39, kX11_expect_39)]
theorem rX11_expect_0 (sa : Nat → Nat) (E : Nat → Sem) (MC MS : Nat) (HX : Nat → Nat → Option Nat) (Q : Option Value → Mm → Prop) (X : Nat → Mm → Prop) (L : List Slot) (st : List Value) (M : Mm) (nc ns : Nat) : Run sa E MC MS HX Q X kX11_expect 0 L st M nc ns = bk sa E MC MS HX (Run sa E MC MS HX Q X kX11_expect) Q X kX11_expect_0 L st M nc ns := Run_eq sa E MC MS HX Q X _ _ _ _ _ _ _
theorem rX11_expect_8 (sa : Nat → Nat) (E : Nat → Sem) (MC MS : Nat) (HX : Nat → Nat → Option Nat) (Q : Option Value → Mm → Prop) (X : Nat → Mm → Prop) (L : List Slot) (st : List Value) (M : Mm) (nc ns : Nat) : Run sa E MC MS HX Q X kX11_expect 8 L st M nc ns = bk sa E MC MS HX (Run sa E MC MS HX Q X kX11_expect) Q X kX11_expect_8 L st M nc ns := Run_eq sa E MC MS HX Q X _ _ _ _ _ _ _
theorem rX11_expect_29 (sa : Nat → Nat) (E : Nat → Sem) (MC MS : Nat) (HX : Nat → Nat → Option Nat) (Q : Option Value → Mm → Prop) (X : Nat → Mm → Prop) (L : List Slot) (st : List Value) (M : Mm) (nc ns : Nat) : Run sa E MC MS HX Q X kX11_expect 29 L st M nc ns = bk sa E MC MS HX (Run sa E MC MS HX Q X kX11_expect) Q X kX11_expect_29 L st M nc ns := Run_eq sa E MC MS HX Q X _ _ _ _ _ _ _
theorem rX11_expect_39 (sa : Nat → Nat) (E : Nat → Sem) (MC MS : Nat) (HX : Nat → Nat → Option Nat) (Q : Option Value → Mm → Prop) (X : Nat → Mm → Prop) (L : List Slot) (st : List Value) (M : Mm) (nc ns : Nat) : Run sa E MC MS HX Q X kX11_expect 39 L st M nc ns = bk sa E MC MS HX (Run sa E MC MS HX Q X kX11_expect) Q X kX11_expect_39 L st M nc ns := Run_eq sa E MC MS HX Q X _ _ _ _ _ _ _
def kX11_expected_0 : List Item := [(0, .aload_n 0, 1, 3, 0, 0, 0, 0, [], .null),
    (1, .iconst 0, 1, 0, 0, 0, 0, 0, [], .int 0),
    (2, .putfield 42, 3, 27, 11, 0, 0, 0, [], .null),
    (5, .aload_n 0, 1, 3, 0, 0, 0, 0, [], .null),
    (6, .iload_n 1, 1, 1, 1, 0, 0, 0, [], .null),
    (7, .invokevirtual 236, 3, 48, 152, 2, 0, 0, [11], .null),
    (10, .ifCond .ne 26, 3, 20, 36, 1, 0, 0, [], .null),
    (13, .aload_n 0, 1, 3, 0, 0, 0, 0, [], .null),
    (14, .iload_n 2, 1, 1, 2, 0, 0, 0, [], .null),
    (15, .iconst 0, 1, 0, 0, 0, 0, 0, [], .int 0),
    (16, .bipush 100, 2, 0, 0, 0, 0, 0, [], .int 100),
    (18, .invokestatic 64, 3, 48, 139, 3, 0, 0, [], .null),
    (21, .ifCond .ne 7, 3, 20, 28, 1, 0, 0, [], .null),
    (24, .iconst 1, 1, 0, 0, 0, 0, 0, [], .int 1),
    (25, .goto 4, 3, 22, 29, 0, 0, 0, [], .null)]
def kX11_expected_28 : List Item := [(28, .iconst 0, 1, 0, 0, 0, 0, 0, [], .int 0),
    (29, .iconst 2, 1, 0, 0, 0, 0, 0, [], .int 2),
    (30, .invokevirtual 169, 3, 48, 129, 3, 0, 0, [11], .null),
    (33, .ifCond .eq 5, 3, 20, 38, 0, 0, 0, [], .null),
    (36, .iconst 0, 1, 0, 0, 0, 0, 0, [], .int 0),
    (37, .ireturn, 1, 56, 0, 0, 0, 0, [], .null)]
def kX11_expected_29 : List Item := [(29, .iconst 2, 1, 0, 0, 0, 0, 0, [], .int 2),
    (30, .invokevirtual 169, 3, 48, 129, 3, 0, 0, [11], .null),
    (33, .ifCond .eq 5, 3, 20, 38, 0, 0, 0, [], .null),
    (36, .iconst 0, 1, 0, 0, 0, 0, 0, [], .int 0),
    (37, .ireturn, 1, 56, 0, 0, 0, 0, [], .null)]
def kX11_expected_36 : List Item := [(36, .iconst 0, 1, 0, 0, 0, 0, 0, [], .int 0),
    (37, .ireturn, 1, 56, 0, 0, 0, 0, [], .null)]
def kX11_expected_38 : List Item := [(38, .aload_n 0, 1, 3, 0, 0, 0, 0, [], .null),
    (39, .getfield 17, 3, 26, 11, 8, 0, 0, [], .null),
    (42, .aload_n 0, 1, 3, 0, 0, 0, 0, [], .null),
    (43, .getfield 23, 3, 26, 11, 10, 0, 0, [], .null),
    (46, .invokestatic 179, 3, 48, 117, 2, 0, 0, [], .null),
    (49, .aload_n 0, 1, 3, 0, 0, 0, 0, [], .null),
    (50, .iload_n 1, 1, 1, 1, 0, 0, 0, [], .null),
    (51, .iload_n 2, 1, 1, 2, 0, 0, 0, [], .null),
    (52, .invokevirtual 251, 3, 48, 111, 3, 0, 0, [11], .null),
    (55, .ireturn, 1, 56, 0, 0, 0, 0, [], .null)]
def kX11_expected : Code9 := [(0, kX11_expected_0), (28, kX11_expected_28), (29, kX11_expected_29), (36, kX11_expected_36), (38, kX11_expected_38)]
theorem rX11_expected_0 (sa : Nat → Nat) (E : Nat → Sem) (MC MS : Nat) (HX : Nat → Nat → Option Nat) (Q : Option Value → Mm → Prop) (X : Nat → Mm → Prop) (L : List Slot) (st : List Value) (M : Mm) (nc ns : Nat) : Run sa E MC MS HX Q X kX11_expected 0 L st M nc ns = bk sa E MC MS HX (Run sa E MC MS HX Q X kX11_expected) Q X kX11_expected_0 L st M nc ns := Run_eq sa E MC MS HX Q X _ _ _ _ _ _ _
theorem rX11_expected_28 (sa : Nat → Nat) (E : Nat → Sem) (MC MS : Nat) (HX : Nat → Nat → Option Nat) (Q : Option Value → Mm → Prop) (X : Nat → Mm → Prop) (L : List Slot) (st : List Value) (M : Mm) (nc ns : Nat) : Run sa E MC MS HX Q X kX11_expected 28 L st M nc ns = bk sa E MC MS HX (Run sa E MC MS HX Q X kX11_expected) Q X kX11_expected_28 L st M nc ns := Run_eq sa E MC MS HX Q X _ _ _ _ _ _ _
theorem rX11_expected_29 (sa : Nat → Nat) (E : Nat → Sem) (MC MS : Nat) (HX : Nat → Nat → Option Nat) (Q : Option Value → Mm → Prop) (X : Nat → Mm → Prop) (L : List Slot) (st : List Value) (M : Mm) (nc ns : Nat) : Run sa E MC MS HX Q X kX11_expected 29 L st M nc ns = bk sa E MC MS HX (Run sa E MC MS HX Q X kX11_expected) Q X kX11_expected_29 L st M nc ns := Run_eq sa E MC MS HX Q X _ _ _ _ _ _ _
theorem rX11_expected_36 (sa : Nat → Nat) (E : Nat → Sem) (MC MS : Nat) (HX : Nat → Nat → Option Nat) (Q : Option Value → Mm → Prop) (X : Nat → Mm → Prop) (L : List Slot) (st : List Value) (M : Mm) (nc ns : Nat) : Run sa E MC MS HX Q X kX11_expected 36 L st M nc ns = bk sa E MC MS HX (Run sa E MC MS HX Q X kX11_expected) Q X kX11_expected_36 L st M nc ns := Run_eq sa E MC MS HX Q X _ _ _ _ _ _ _
theorem rX11_expected_38 (sa : Nat → Nat) (E : Nat → Sem) (MC MS : Nat) (HX : Nat → Nat → Option Nat) (Q : Option Value → Mm → Prop) (X : Nat → Mm → Prop) (L : List Slot) (st : List Value) (M : Mm) (nc ns : Nat) : Run sa E MC MS HX Q X kX11_expected 38 L st M nc ns = bk sa E MC MS HX (Run sa E MC MS HX Q X kX11_expected) Q X kX11_expected_38 L st M nc ns := Run_eq sa E MC MS HX Q X _ _ _ _ _ _ _
def kX11_factor_0 (d : Nat) : List Item := [(0, .aload_n 0, 1, 3, 0, 0, 0, 0, [], .null),
    (1, .invokevirtual 68, 3, 48, 146, 1, 0, 0, [11], .null),
    (4, .ifCond .ne 4, 3, 20, 8, 1, 0, 0, [], .null),
    (7, .return_, 1, 55, 0, 0, 0, 0, [], .null)]
def kX11_factor_8 (d : Nat) : List Item := [(8, .aload_n 0, 1, 3, 0, 0, 0, 0, [], .null),
    (9, .invokevirtual 72, 3, 48, 151, 1, 0, 0, [11], .null),
    (12, .istore_n 1, 1, 4, 1, 0, 0, 0, [], .null),
    (13, .iload_n 1, 1, 1, 1, 0, 0, 0, [], .null),
    (14, .bipush 40, 2, 0, 0, 0, 0, 0, [], .int 40),
    (16, .if_icmp .ne 62, 3, 21, 78, 1, 0, 0, [], .null),
    (19, .aload_n 0, 1, 3, 0, 0, 0, 0, [], .null),
    (20, .getfield 101, 3, 24, 11, 14, 0, 0, [], .null),
    (23, .iconst 4, 1, 0, 0, 0, 0, 0, [], .int 4),
    (24, .if_icmp .ne 13, 3, 21, 37, 1, 0, 0, [], .null),
    (27, .aload_n 0, 1, 3, 0, 0, 0, 0, [], .null),
    (28, .bipush (-5), 2, 0, 0, 0, 0, 0, [], .int (-5)),
    (30, .aload_n 0, 1, 3, 0, 0, 0, 0, [], .null),
    (31, .getfield 51, 3, 24, 11, 4, 0, 0, [], .null),
    (34, .invokevirtual 85, 3, 48, 166, 3, 0, 0, [11], .null),
    (37, .aload_n 0, 1, 3, 0, 0, 0, 0, [], .null),
    (38, .dup, 1, 16, 0, 0, 0, 0, [], .null),
    (39, .getfield 51, 3, 24, 11, 4, 0, 0, [], .null),
    (42, .iconst 1, 1, 0, 0, 0, 0, 0, [], .int 1),
    (43, .iadd, 1, 8, 0, 0, 0, 0, [], .null),
    (44, .putfield 51, 3, 27, 11, 4, 0, 0, [], .null),
    (47, .aload_n 0, 1, 3, 0, 0, 0, 0, [], .null),
    (48, .dup, 1, 16, 0, 0, 0, 0, [], .null),
    (49, .getfield 101, 3, 24, 11, 14, 0, 0, [], .null),
    (52, .iconst 1, 1, 0, 0, 0, 0, 0, [], .int 1),
    (53, .iadd, 1, 8, 0, 0, 0, 0, [], .null),
    (54, .putfield 101, 3, 27, 11, 14, 0, 0, [], .null),
    (57, .aload_n 0, 1, 3, 0, 0, 0, 0, [], .null),
    (58, .invokevirtual 104, 3, 48, 171 + 1000 * (d - 1), 1, 0, 0, [11], .null),
    (61, .aload_n 0, 1, 3, 0, 0, 0, 0, [], .null),
    (62, .bipush 41, 2, 0, 0, 0, 0, 0, [], .int 41),
    (64, .invokevirtual 107, 3, 48, 126, 2, 0, 0, [11], .null),
    (67, .aload_n 0, 1, 3, 0, 0, 0, 0, [], .null),
    (68, .dup, 1, 16, 0, 0, 0, 0, [], .null),
    (69, .getfield 101, 3, 24, 11, 14, 0, 0, [], .null),
    (72, .iconst 1, 1, 0, 0, 0, 0, 0, [], .int 1),
    (73, .isub, 1, 8, 0, 1, 0, 0, [], .null),
    (74, .putfield 101, 3, 27, 11, 14, 0, 0, [], .null),
    (77, .return_, 1, 55, 0, 0, 0, 0, [], .null)]
def kX11_factor_37 (d : Nat) : List Item := [(37, .aload_n 0, 1, 3, 0, 0, 0, 0, [], .null),
    (38, .dup, 1, 16, 0, 0, 0, 0, [], .null),
    (39, .getfield 51, 3, 24, 11, 4, 0, 0, [], .null),
    (42, .iconst 1, 1, 0, 0, 0, 0, 0, [], .int 1),
    (43, .iadd, 1, 8, 0, 0, 0, 0, [], .null),
    (44, .putfield 51, 3, 27, 11, 4, 0, 0, [], .null),
    (47, .aload_n 0, 1, 3, 0, 0, 0, 0, [], .null),
    (48, .dup, 1, 16, 0, 0, 0, 0, [], .null),
    (49, .getfield 101, 3, 24, 11, 14, 0, 0, [], .null),
    (52, .iconst 1, 1, 0, 0, 0, 0, 0, [], .int 1),
    (53, .iadd, 1, 8, 0, 0, 0, 0, [], .null),
    (54, .putfield 101, 3, 27, 11, 14, 0, 0, [], .null),
    (57, .aload_n 0, 1, 3, 0, 0, 0, 0, [], .null),
    (58, .invokevirtual 104, 3, 48, 171 + 1000 * (d - 1), 1, 0, 0, [11], .null),
    (61, .aload_n 0, 1, 3, 0, 0, 0, 0, [], .null),
    (62, .bipush 41, 2, 0, 0, 0, 0, 0, [], .int 41),
    (64, .invokevirtual 107, 3, 48, 126, 2, 0, 0, [11], .null),
    (67, .aload_n 0, 1, 3, 0, 0, 0, 0, [], .null),
    (68, .dup, 1, 16, 0, 0, 0, 0, [], .null),
    (69, .getfield 101, 3, 24, 11, 14, 0, 0, [], .null),
    (72, .iconst 1, 1, 0, 0, 0, 0, 0, [], .int 1),
    (73, .isub, 1, 8, 0, 1, 0, 0, [], .null),
    (74, .putfield 101, 3, 27, 11, 14, 0, 0, [], .null),
    (77, .return_, 1, 55, 0, 0, 0, 0, [], .null)]
def kX11_factor_78 (d : Nat) : List Item := [(78, .iload_n 1, 1, 1, 1, 0, 0, 0, [], .null),
    (79, .invokestatic 89, 3, 48, 144, 1, 0, 0, [], .null),
    (82, .ifCond .eq 7, 3, 20, 89, 0, 0, 0, [], .null),
    (85, .iconst (-1), 1, 0, 0, 0, 0, 0, [], .int (-1)),
    (86, .goto 43, 3, 22, 129, 0, 0, 0, [], .null)]
def kX11_factor_89 (d : Nat) : List Item := [(89, .aload_n 0, 1, 3, 0, 0, 0, 0, [], .null),
    (90, .ldc 111, 2, 52, 8, 0, 0, 0, [], .null),
    (92, .invokevirtual 113, 3, 48, 174, 2, 0, 0, [11], .null),
    (95, .ifCond .eq 7, 3, 20, 102, 0, 0, 0, [], .null),
    (98, .iconst 0, 1, 0, 0, 0, 0, 0, [], .int 0),
    (99, .goto 30, 3, 22, 129, 0, 0, 0, [], .null)]
def kX11_factor_102 (d : Nat) : List Item := [(102, .aload_n 0, 1, 3, 0, 0, 0, 0, [], .null),
    (103, .ldc 117, 2, 52, 9, 0, 0, 0, [], .null),
    (105, .invokevirtual 113, 3, 48, 174, 2, 0, 0, [11], .null),
    (108, .ifCond .eq 7, 3, 20, 115, 0, 0, 0, [], .null),
    (111, .iconst 1, 1, 0, 0, 0, 0, 0, [], .int 1),
    (112, .goto 17, 3, 22, 129, 0, 0, 0, [], .null)]
def kX11_factor_115 (d : Nat) : List Item := [(115, .aload_n 0, 1, 3, 0, 0, 0, 0, [], .null),
    (116, .ldc 119, 2, 52, 5, 0, 0, 0, [], .null),
    (118, .invokevirtual 113, 3, 48, 174, 2, 0, 0, [11], .null),
    (121, .ifCond .eq 7, 3, 20, 128, 0, 0, 0, [], .null),
    (124, .iconst 2, 1, 0, 0, 0, 0, 0, [], .int 2),
    (125, .goto 4, 3, 22, 129, 0, 0, 0, [], .null)]
def kX11_factor_128 (d : Nat) : List Item := [(128, .iconst (-1), 1, 0, 0, 0, 0, 0, [], .int (-1)),
    (129, .istore_n 2, 1, 4, 2, 0, 0, 0, [], .null),
    (130, .iload_n 2, 1, 1, 2, 0, 0, 0, [], .null),
    (131, .ifCond .ge 14, 3, 20, 145, 3, 0, 0, [], .null),
    (134, .aload_n 0, 1, 3, 0, 0, 0, 0, [], .null),
    (135, .iconst 0, 1, 0, 0, 0, 0, 0, [], .int 0),
    (136, .sipush 9999, 3, 0, 0, 0, 0, 0, [], .int 9999),
    (139, .invokevirtual 121, 3, 48, 155, 3, 0, 0, [11], .null),
    (142, .goto 4, 3, 22, 146, 0, 0, 0, [], .null)]
def kX11_factor_129 (d : Nat) : List Item := [(129, .istore_n 2, 1, 4, 2, 0, 0, 0, [], .null),
    (130, .iload_n 2, 1, 1, 2, 0, 0, 0, [], .null),
    (131, .ifCond .ge 14, 3, 20, 145, 3, 0, 0, [], .null),
    (134, .aload_n 0, 1, 3, 0, 0, 0, 0, [], .null),
    (135, .iconst 0, 1, 0, 0, 0, 0, 0, [], .int 0),
    (136, .sipush 9999, 3, 0, 0, 0, 0, 0, [], .int 9999),
    (139, .invokevirtual 121, 3, 48, 155, 3, 0, 0, [11], .null),
    (142, .goto 4, 3, 22, 146, 0, 0, 0, [], .null)]
def kX11_factor_145 (d : Nat) : List Item := [(145, .iload_n 2, 1, 1, 2, 0, 0, 0, [], .null),
    (146, .istore_n 3, 1, 4, 3, 0, 0, 0, [], .null),
    (147, .aload_n 0, 1, 3, 0, 0, 0, 0, [], .null),
    (148, .iload_n 2, 1, 1, 2, 0, 0, 0, [], .null),
    (149, .ifCond .ge 7, 3, 20, 156, 3, 0, 0, [], .null),
    (152, .iconst 0, 1, 0, 0, 0, 0, 0, [], .int 0),
    (153, .goto 4, 3, 22, 157, 0, 0, 0, [], .null)]
def kX11_factor_146 (d : Nat) : List Item := [(146, .istore_n 3, 1, 4, 3, 0, 0, 0, [], .null),
    (147, .aload_n 0, 1, 3, 0, 0, 0, 0, [], .null),
    (148, .iload_n 2, 1, 1, 2, 0, 0, 0, [], .null),
    (149, .ifCond .ge 7, 3, 20, 156, 3, 0, 0, [], .null),
    (152, .iconst 0, 1, 0, 0, 0, 0, 0, [], .int 0),
    (153, .goto 4, 3, 22, 157, 0, 0, 0, [], .null)]
def kX11_factor_156 (d : Nat) : List Item := [(156, .iconst 1, 1, 0, 0, 0, 0, 0, [], .int 1),
    (157, .invokevirtual 124, 3, 48, 123, 2, 0, 0, [11], .null),
    (160, .aload_n 0, 1, 3, 0, 0, 0, 0, [], .null),
    (161, .iload_n 3, 1, 1, 3, 0, 0, 0, [], .null),
    (162, .invokevirtual 124, 3, 48, 123, 2, 0, 0, [11], .null),
    (165, .return_, 1, 55, 0, 0, 0, 0, [], .null)]
def kX11_factor_157 (d : Nat) : List Item := [(157, .invokevirtual 124, 3, 48, 123, 2, 0, 0, [11], .null),
    (160, .aload_n 0, 1, 3, 0, 0, 0, 0, [], .null),
    (161, .iload_n 3, 1, 1, 3, 0, 0, 0, [], .null),
    (162, .invokevirtual 124, 3, 48, 123, 2, 0, 0, [11], .null),
    (165, .return_, 1, 55, 0, 0, 0, 0, [], .null)]
def kX11_factor (d : Nat) : Code9 := [(0, kX11_factor_0 d), (8, kX11_factor_8 d), (37, kX11_factor_37 d), (78, kX11_factor_78 d), (89, kX11_factor_89 d), (102, kX11_factor_102 d), (115, kX11_factor_115 d), (128, kX11_factor_128 d), (129, kX11_factor_129 d), (145, kX11_factor_145 d), (146, kX11_factor_146 d), (156, kX11_factor_156 d), (157, kX11_factor_157 d)]
theorem rX11_factor_0 (sa : Nat → Nat) (E : Nat → Sem) (MC MS : Nat) (HX : Nat → Nat → Option Nat) (Q : Option Value → Mm → Prop) (X : Nat → Mm → Prop) (d : Nat) (L : List Slot) (st : List Value) (M : Mm) (nc ns : Nat) : Run sa E MC MS HX Q X (kX11_factor d) 0 L st M nc ns = bk sa E MC MS HX (Run sa E MC MS HX Q X (kX11_factor d)) Q X (kX11_factor_0 d) L st M nc ns := Run_eq sa E MC MS HX Q X _ _ _ _ _ _ _
theorem rX11_factor_8 (sa : Nat → Nat) (E : Nat → Sem) (MC MS : Nat) (HX : Nat → Nat → Option Nat) (Q : Option Value → Mm → Prop) (X : Nat → Mm → Prop) (d : Nat) (L : List Slot) (st : List Value) (M : Mm) (nc ns : Nat) : Run sa E MC MS HX Q X (kX11_factor d) 8 L st M nc ns = bk sa E MC MS HX (Run sa E MC MS HX Q X (kX11_factor d)) Q X (kX11_factor_8 d) L st M nc ns := Run_eq sa E MC MS HX Q X _ _ _ _ _ _ _
theorem rX11_factor_37 (sa : Nat → Nat) (E : Nat → Sem) (MC MS : Nat) (HX : Nat → Nat → Option Nat) (Q : Option Value → Mm → Prop) (X : Nat → Mm → Prop) (d : Nat) (L : List Slot) (st : List Value) (M : Mm) (nc ns : Nat) : Run sa E MC MS HX Q X (kX11_factor d) 37 L st M nc ns = bk sa E MC MS HX (Run sa E MC MS HX Q X (kX11_factor d)) Q X (kX11_factor_37 d) L st M nc ns := Run_eq sa E MC MS HX Q X _ _ _ _ _ _ _
theorem rX11_factor_78 (sa : Nat → Nat) (E : Nat → Sem) (MC MS : Nat) (HX : Nat → Nat → Option Nat) (Q : Option Value → Mm → Prop) (X : Nat → Mm → Prop) (d : Nat) (L : List Slot) (st : List Value) (M : Mm) (nc ns : Nat) : Run sa E MC MS HX Q X (kX11_factor d) 78 L st M nc ns = bk sa E MC MS HX (Run sa E MC MS HX Q X (kX11_factor d)) Q X (kX11_factor_78 d) L st M nc ns := Run_eq sa E MC MS HX Q X _ _ _ _ _ _ _
theorem rX11_factor_89 (sa : Nat → Nat) (E : Nat → Sem) (MC MS : Nat) (HX : Nat → Nat → Option Nat) (Q : Option Value → Mm → Prop) (X : Nat → Mm → Prop) (d : Nat) (L : List Slot) (st : List Value) (M : Mm) (nc ns : Nat) : Run sa E MC MS HX Q X (kX11_factor d) 89 L st M nc ns = bk sa E MC MS HX (Run sa E MC MS HX Q X (kX11_factor d)) Q X (kX11_factor_89 d) L st M nc ns := Run_eq sa E MC MS HX Q X _ _ _ _ _ _ _
theorem rX11_factor_102 (sa : Nat → Nat) (E : Nat → Sem) (MC MS : Nat) (HX : Nat → Nat → Option Nat) (Q : Option Value → Mm → Prop) (X : Nat → Mm → Prop) (d : Nat) (L : List Slot) (st : List Value) (M : Mm) (nc ns : Nat) : Run sa E MC MS HX Q X (kX11_factor d) 102 L st M nc ns = bk sa E MC MS HX (Run sa E MC MS HX Q X (kX11_factor d)) Q X (kX11_factor_102 d) L st M nc ns := Run_eq sa E MC MS HX Q X _ _ _ _ _ _ _
theorem rX11_factor_115 (sa : Nat → Nat) (E : Nat → Sem) (MC MS : Nat) (HX : Nat → Nat → Option Nat) (Q : Option Value → Mm → Prop) (X : Nat → Mm → Prop) (d : Nat) (L : List Slot) (st : List Value) (M : Mm) (nc ns : Nat) : Run sa E MC MS HX Q X (kX11_factor d) 115 L st M nc ns = bk sa E MC MS HX (Run sa E MC MS HX Q X (kX11_factor d)) Q X (kX11_factor_115 d) L st M nc ns := Run_eq sa E MC MS HX Q X _ _ _ _ _ _ _
theorem rX11_factor_128 (sa : Nat → Nat) (E : Nat → Sem) (MC MS : Nat) (HX : Nat → Nat → Option Nat) (Q : Option Value → Mm → Prop) (X : Nat → Mm → Prop) (d : Nat) (L : List Slot) (st : List Value) (M : Mm) (nc ns : Nat) : Run sa E MC MS HX Q X (kX11_factor d) 128 L st M nc ns = bk sa E MC MS HX (Run sa E MC MS HX Q X (kX11_factor d)) Q X (kX11_factor_128 d) L st M nc ns := Run_eq sa E MC MS HX Q X _ _ _ _ _ _ _
theorem rX11_factor_129 (sa : Nat → Nat) (E : Nat → Sem) (MC MS : Nat) (HX : Nat → Nat → Option Nat) (Q : Option Value → Mm → Prop) (X : Nat → Mm → Prop) (d : Nat) (L : List Slot) (st : List Value) (M : Mm) (nc ns : Nat) : Run sa E MC MS HX Q X (kX11_factor d) 129 L st M nc ns = bk sa E MC MS HX (Run sa E MC MS HX Q X (kX11_factor d)) Q X (kX11_factor_129 d) L st M nc ns := Run_eq sa E MC MS HX Q X _ _ _ _ _ _ _
theorem rX11_factor_145 (sa : Nat → Nat) (E : Nat → Sem) (MC MS : Nat) (HX : Nat → Nat → Option Nat) (Q : Option Value → Mm → Prop) (X : Nat → Mm → Prop) (d : Nat) (L : List Slot) (st : List Value) (M : Mm) (nc ns : Nat) : Run sa E MC MS HX Q X (kX11_factor d) 145 L st M nc ns = bk sa E MC MS HX (Run sa E MC MS HX Q X (kX11_factor d)) Q X (kX11_factor_145 d) L st M nc ns := Run_eq sa E MC MS HX Q X _ _ _ _ _ _ _
theorem rX11_factor_146 (sa : Nat → Nat) (E : Nat → Sem) (MC MS : Nat) (HX : Nat → Nat → Option Nat) (Q : Option Value → Mm → Prop) (X : Nat → Mm → Prop) (d : Nat) (L : List Slot) (st : List Value) (M : Mm) (nc ns : Nat) : Run sa E MC MS HX Q X (kX11_factor d) 146 L st M nc ns = bk sa E MC MS HX (Run sa E MC MS HX Q X (kX11_factor d)) Q X (kX11_factor_146 d) L st M nc ns := Run_eq sa E MC MS HX Q X _ _ _ _ _ _ _
theorem rX11_factor_156 (sa : Nat → Nat) (E : Nat → Sem) (MC MS : Nat) (HX : Nat → Nat → Option Nat) (Q : Option Value → Mm → Prop) (X : Nat → Mm → Prop) (d : Nat) (L : List Slot) (st : List Value) (M : Mm) (nc ns : Nat) : Run sa E MC MS HX Q X (kX11_factor d) 156 L st M nc ns = bk sa E MC MS HX (Run sa E MC MS HX Q X (kX11_factor d)) Q X (kX11_factor_156 d) L st M nc ns := Run_eq sa E MC MS HX Q X _ _ _ _ _ _ _
theorem rX11_factor_157 (sa : Nat → Nat) (E : Nat → Sem) (MC MS : Nat) (HX : Nat → Nat → Option Nat) (Q : Option Value → Mm → Prop) (X : Nat → Mm → Prop) (d : Nat) (L : List Slot) (st : List Value) (M : Mm) (nc ns : Nat) : Run sa E MC MS HX Q X (kX11_factor d) 157 L st M nc ns = bk sa E MC MS HX (Run sa E MC MS HX Q X (kX11_factor d)) Q X (kX11_factor_157 d) L st M nc ns := Run_eq sa E MC MS HX Q X _ _ _ _ _ _ _
def kX11_fails_0 : List Item := [(0, .iload_n 1, 1, 1, 1, 0, 0, 0, [], .null),
    (1, .ifCond .eq 15, 3, 20, 16, 0, 0, 0, [], .null),
    (4, .aload_n 0, 1, 3, 0, 0, 0, 0, [], .null),
    (5, .getfield 42, 3, 24, 11, 0, 0, 0, [], .null),
    (8, .ifCond .ne 8, 3, 20, 16, 1, 0, 0, [], .null),
    (11, .aload_n 0, 1, 3, 0, 0, 0, 0, [], .null),
    (12, .iload_n 2, 1, 1, 2, 0, 0, 0, [], .null),
    (13, .putfield 42, 3, 27, 11, 0, 0, 0, [], .null),
    (16, .aload_n 0, 1, 3, 0, 0, 0, 0, [], .null),
    (17, .getfield 42, 3, 24, 11, 0, 0, 0, [], .null),
    (20, .ifCond .eq 7, 3, 20, 27, 0, 0, 0, [], .null),
    (23, .iconst 1, 1, 0, 0, 0, 0, 0, [], .int 1),
    (24, .goto 4, 3, 22, 28, 0, 0, 0, [], .null)]
def kX11_fails_16 : List Item := [(16, .aload_n 0, 1, 3, 0, 0, 0, 0, [], .null),
    (17, .getfield 42, 3, 24, 11, 0, 0, 0, [], .null),
    (20, .ifCond .eq 7, 3, 20, 27, 0, 0, 0, [], .null),
    (23, .iconst 1, 1, 0, 0, 0, 0, 0, [], .int 1),
    (24, .goto 4, 3, 22, 28, 0, 0, 0, [], .null)]
def kX11_fails_27 : List Item := [(27, .iconst 0, 1, 0, 0, 0, 0, 0, [], .int 0),
    (28, .ireturn, 1, 58, 0, 0, 0, 0, [], .null)]
def kX11_fails_28 : List Item := [(28, .ireturn, 1, 58, 0, 0, 0, 0, [], .null)]
def kX11_fails : Code9 := [(0, kX11_fails_0), (16, kX11_fails_16), (27, kX11_fails_27), (28, kX11_fails_28)]
theorem rX11_fails_0 (sa : Nat → Nat) (E : Nat → Sem) (MC MS : Nat) (HX : Nat → Nat → Option Nat) (Q : Option Value → Mm → Prop) (X : Nat → Mm → Prop) (L : List Slot) (st : List Value) (M : Mm) (nc ns : Nat) : Run sa E MC MS HX Q X kX11_fails 0 L st M nc ns = bk sa E MC MS HX (Run sa E MC MS HX Q X kX11_fails) Q X kX11_fails_0 L st M nc ns := Run_eq sa E MC MS HX Q X _ _ _ _ _ _ _
theorem rX11_fails_16 (sa : Nat → Nat) (E : Nat → Sem) (MC MS : Nat) (HX : Nat → Nat → Option Nat) (Q : Option Value → Mm → Prop) (X : Nat → Mm → Prop) (L : List Slot) (st : List Value) (M : Mm) (nc ns : Nat) : Run sa E MC MS HX Q X kX11_fails 16 L st M nc ns = bk sa E MC MS HX (Run sa E MC MS HX Q X kX11_fails) Q X kX11_fails_16 L st M nc ns := Run_eq sa E MC MS HX Q X _ _ _ _ _ _ _
theorem rX11_fails_27 (sa : Nat → Nat) (E : Nat → Sem) (MC MS : Nat) (HX : Nat → Nat → Option Nat) (Q : Option Value → Mm → Prop) (X : Nat → Mm → Prop) (L : List Slot) (st : List Value) (M : Mm) (nc ns : Nat) : Run sa E MC MS HX Q X kX11_fails 27 L st M nc ns = bk sa E MC MS HX (Run sa E MC MS HX Q X kX11_fails) Q X kX11_fails_27 L st M nc ns := Run_eq sa E MC MS HX Q X _ _ _ _ _ _ _
theorem rX11_fails_28 (sa : Nat → Nat) (E : Nat → Sem) (MC MS : Nat) (HX : Nat → Nat → Option Nat) (Q : Option Value → Mm → Prop) (X : Nat → Mm → Prop) (L : List Slot) (st : List Value) (M : Mm) (nc ns : Nat) : Run sa E MC MS HX Q X kX11_fails 28 L st M nc ns = bk sa E MC MS HX (Run sa E MC MS HX Q X kX11_fails) Q X kX11_fails_28 L st M nc ns := Run_eq sa E MC MS HX Q X _ _ _ _ _ _ _
def kX11_fairHours_0 : List Item := [(0, .aload_n 0, 1, 3, 0, 0, 0, 0, [], .null),
    (1, .iconst 0, 1, 0, 0, 0, 0, 0, [], .int 0),
    (2, .putfield 42, 3, 27, 11, 0, 0, 0, [], .null),
    (5, .aload_n 0, 1, 3, 0, 0, 0, 0, [], .null),
    (6, .iload_n 1, 1, 1, 1, 0, 0, 0, [], .null),
    (7, .invokevirtual 242, 3, 48, 154, 2, 0, 0, [11], .null),
    (10, .ifCond .ne 27, 3, 20, 37, 1, 0, 0, [], .null),
    (13, .aload_n 0, 1, 3, 0, 0, 0, 0, [], .null),
    (14, .iload_n 2, 1, 1, 2, 0, 0, 0, [], .null),
    (15, .iconst 0, 1, 0, 0, 0, 0, 0, [], .int 0),
    (16, .sipush 1000, 3, 0, 0, 0, 0, 0, [], .int 1000),
    (19, .invokestatic 64, 3, 48, 139, 3, 0, 0, [], .null),
    (22, .ifCond .ne 7, 3, 20, 29, 1, 0, 0, [], .null),
    (25, .iconst 1, 1, 0, 0, 0, 0, 0, [], .int 1),
    (26, .goto 4, 3, 22, 30, 0, 0, 0, [], .null)]
def kX11_fairHours_29 : List Item := [(29, .iconst 0, 1, 0, 0, 0, 0, 0, [], .int 0),
    (30, .iconst 2, 1, 0, 0, 0, 0, 0, [], .int 2),
    (31, .invokevirtual 169, 3, 48, 129, 3, 0, 0, [11], .null),
    (34, .ifCond .eq 5, 3, 20, 39, 0, 0, 0, [], .null),
    (37, .iconst 0, 1, 0, 0, 0, 0, 0, [], .int 0),
    (38, .ireturn, 1, 56, 0, 0, 0, 0, [], .null)]
def kX11_fairHours_30 : List Item := [(30, .iconst 2, 1, 0, 0, 0, 0, 0, [], .int 2),
    (31, .invokevirtual 169, 3, 48, 129, 3, 0, 0, [11], .null),
    (34, .ifCond .eq 5, 3, 20, 39, 0, 0, 0, [], .null),
    (37, .iconst 0, 1, 0, 0, 0, 0, 0, [], .int 0),
    (38, .ireturn, 1, 56, 0, 0, 0, 0, [], .null)]
def kX11_fairHours_37 : List Item := [(37, .iconst 0, 1, 0, 0, 0, 0, 0, [], .int 0),
    (38, .ireturn, 1, 56, 0, 0, 0, 0, [], .null)]
def kX11_fairHours_39 : List Item := [(39, .iconst 0, 1, 0, 0, 0, 0, 0, [], .int 0),
    (40, .istore_n 3, 1, 4, 3, 0, 0, 0, [], .null),
    (41, .iload_n 2, 1, 1, 2, 0, 0, 0, [], .null),
    (42, .istore 4, 2, 4, 4, 0, 0, 0, [], .null),
    (44, .iconst 0, 1, 0, 0, 0, 0, 0, [], .int 0),
    (45, .istore 5, 2, 4, 5, 0, 0, 0, [], .null),
    (47, .iconst 0, 1, 0, 0, 0, 0, 0, [], .int 0),
    (48, .istore 6, 2, 4, 6, 0, 0, 0, [], .null),
    (50, .nop, 0, 60, 50, 0, 0, 0, [], .null)]
def kX11_fairHours_50 : List Item := [(50, .iload 6, 2, 1, 6, 0, 0, 0, [], .null),
    (52, .bipush 6, 2, 0, 0, 0, 0, 0, [], .int 6),
    (54, .if_icmp .ge 18, 3, 21, 72, 3, 0, 0, [], .null),
    (57, .iload_n 3, 1, 1, 3, 0, 0, 0, [], .null),
    (58, .aload_n 0, 1, 3, 0, 0, 0, 0, [], .null),
    (59, .iload 6, 2, 1, 6, 0, 0, 0, [], .null),
    (61, .invokevirtual 245, 3, 48, 120, 2, 0, 0, [11], .null),
    (64, .iadd, 1, 8, 0, 0, 0, 0, [], .null),
    (65, .istore_n 3, 1, 4, 3, 0, 0, 0, [], .null),
    (66, .iinc 6 1, 3, 7, 6, 0, 0, 0, [], .int 1),
    (69, .goto (-19), 3, 22, 50, 0, 0, 0, [], .null)]
def kX11_fairHours_72 : List Item := [(72, .iload_n 3, 1, 1, 3, 0, 0, 0, [], .null),
    (73, .ifCond .ne 5, 3, 20, 78, 1, 0, 0, [], .null),
    (76, .iconst 0, 1, 0, 0, 0, 0, 0, [], .int 0),
    (77, .ireturn, 1, 56, 0, 0, 0, 0, [], .null)]
def kX11_fairHours_78 : List Item := [(78, .iload_n 2, 1, 1, 2, 0, 0, 0, [], .null),
    (79, .aload_n 0, 1, 3, 0, 0, 0, 0, [], .null),
    (80, .iload_n 1, 1, 1, 1, 0, 0, 0, [], .null),
    (81, .invokevirtual 245, 3, 48, 120, 2, 0, 0, [11], .null),
    (84, .imul, 1, 8, 0, 2, 0, 0, [], .null),
    (85, .iload_n 3, 1, 1, 3, 0, 0, 0, [], .null),
    (86, .irem, 1, 9, 0, 1, 0, 0, [], .null),
    (87, .istore 6, 2, 4, 6, 0, 0, 0, [], .null),
    (89, .iconst 0, 1, 0, 0, 0, 0, 0, [], .int 0),
    (90, .istore 7, 2, 4, 7, 0, 0, 0, [], .null),
    (92, .nop, 0, 60, 92, 0, 0, 0, [], .null)]
def kX11_fairHours_92 : List Item := [(92, .iload 7, 2, 1, 7, 0, 0, 0, [], .null),
    (94, .bipush 6, 2, 0, 0, 0, 0, 0, [], .int 6),
    (96, .if_icmp .ge 59, 3, 21, 155, 3, 0, 0, [], .null),
    (99, .iload_n 2, 1, 1, 2, 0, 0, 0, [], .null),
    (100, .aload_n 0, 1, 3, 0, 0, 0, 0, [], .null),
    (101, .iload 7, 2, 1, 7, 0, 0, 0, [], .null),
    (103, .invokevirtual 245, 3, 48, 120, 2, 0, 0, [11], .null),
    (106, .imul, 1, 8, 0, 2, 0, 0, [], .null),
    (107, .iload_n 3, 1, 1, 3, 0, 0, 0, [], .null),
    (108, .irem, 1, 9, 0, 1, 0, 0, [], .null),
    (109, .istore 8, 2, 4, 8, 0, 0, 0, [], .null),
    (111, .iload 4, 2, 1, 4, 0, 0, 0, [], .null),
    (113, .iload_n 2, 1, 1, 2, 0, 0, 0, [], .null),
    (114, .aload_n 0, 1, 3, 0, 0, 0, 0, [], .null),
    (115, .iload 7, 2, 1, 7, 0, 0, 0, [], .null),
    (117, .invokevirtual 245, 3, 48, 120, 2, 0, 0, [11], .null),
    (120, .imul, 1, 8, 0, 2, 0, 0, [], .null),
    (121, .iload_n 3, 1, 1, 3, 0, 0, 0, [], .null),
    (122, .idiv, 1, 9, 0, 0, 0, 0, [], .null),
    (123, .isub, 1, 8, 0, 1, 0, 0, [], .null),
    (124, .istore 4, 2, 4, 4, 0, 0, 0, [], .null),
    (126, .iload 8, 2, 1, 8, 0, 0, 0, [], .null),
    (128, .iload 6, 2, 1, 6, 0, 0, 0, [], .null),
    (130, .if_icmp .gt 16, 3, 21, 146, 4, 0, 0, [], .null),
    (133, .iload 8, 2, 1, 8, 0, 0, 0, [], .null),
    (135, .iload 6, 2, 1, 6, 0, 0, 0, [], .null),
    (137, .if_icmp .ne 12, 3, 21, 149, 1, 0, 0, [], .null),
    (140, .iload 7, 2, 1, 7, 0, 0, 0, [], .null),
    (142, .iload_n 1, 1, 1, 1, 0, 0, 0, [], .null),
    (143, .if_icmp .ge 6, 3, 21, 149, 3, 0, 0, [], .null),
    (146, .iinc 5 1, 3, 7, 5, 0, 0, 0, [], .int 1),
    (149, .iinc 7 1, 3, 7, 7, 0, 0, 0, [], .int 1),
    (152, .goto (-60), 3, 22, 92, 0, 0, 0, [], .null)]
def kX11_fairHours_146 : List Item := [(146, .iinc 5 1, 3, 7, 5, 0, 0, 0, [], .int 1),
    (149, .iinc 7 1, 3, 7, 7, 0, 0, 0, [], .int 1),
    (152, .goto (-60), 3, 22, 92, 0, 0, 0, [], .null)]
def kX11_fairHours_149 : List Item := [(149, .iinc 7 1, 3, 7, 7, 0, 0, 0, [], .int 1),
    (152, .goto (-60), 3, 22, 92, 0, 0, 0, [], .null)]
def kX11_fairHours_155 : List Item := [(155, .iload_n 2, 1, 1, 2, 0, 0, 0, [], .null),
    (156, .aload_n 0, 1, 3, 0, 0, 0, 0, [], .null),
    (157, .iload_n 1, 1, 1, 1, 0, 0, 0, [], .null),
    (158, .invokevirtual 245, 3, 48, 120, 2, 0, 0, [11], .null),
    (161, .imul, 1, 8, 0, 2, 0, 0, [], .null),
    (162, .iload_n 3, 1, 1, 3, 0, 0, 0, [], .null),
    (163, .idiv, 1, 9, 0, 0, 0, 0, [], .null),
    (164, .iload 5, 2, 1, 5, 0, 0, 0, [], .null),
    (166, .iload 4, 2, 1, 4, 0, 0, 0, [], .null),
    (168, .if_icmp .ge 7, 3, 21, 175, 3, 0, 0, [], .null),
    (171, .iconst 1, 1, 0, 0, 0, 0, 0, [], .int 1),
    (172, .goto 4, 3, 22, 176, 0, 0, 0, [], .null)]
def kX11_fairHours_175 : List Item := [(175, .iconst 0, 1, 0, 0, 0, 0, 0, [], .int 0),
    (176, .iadd, 1, 8, 0, 0, 0, 0, [], .null),
    (177, .ireturn, 1, 56, 0, 0, 0, 0, [], .null)]
def kX11_fairHours_176 : List Item := [(176, .iadd, 1, 8, 0, 0, 0, 0, [], .null),
    (177, .ireturn, 1, 56, 0, 0, 0, 0, [], .null)]
def kX11_fairHours : Code9 := [(0, kX11_fairHours_0), (29, kX11_fairHours_29), (30, kX11_fairHours_30), (37, kX11_fairHours_37), (39, kX11_fairHours_39), (50, kX11_fairHours_50), (72, kX11_fairHours_72), (78, kX11_fairHours_78), (92, kX11_fairHours_92), (146, kX11_fairHours_146), (149, kX11_fairHours_149), (155, kX11_fairHours_155), (175, kX11_fairHours_175), (176, kX11_fairHours_176)]
theorem rX11_fairHours_0 (sa : Nat → Nat) (E : Nat → Sem) (MC MS : Nat) (HX : Nat → Nat → Option Nat) (Q : Option Value → Mm → Prop) (X : Nat → Mm → Prop) (L : List Slot) (st : List Value) (M : Mm) (nc ns : Nat) : Run sa E MC MS HX Q X kX11_fairHours 0 L st M nc ns = bk sa E MC MS HX (Run sa E MC MS HX Q X kX11_fairHours) Q X kX11_fairHours_0 L st M nc ns := Run_eq sa E MC MS HX Q X _ _ _ _ _ _ _
theorem rX11_fairHours_29 (sa : Nat → Nat) (E : Nat → Sem) (MC MS : Nat) (HX : Nat → Nat → Option Nat) (Q : Option Value → Mm → Prop) (X : Nat → Mm → Prop) (L : List Slot) (st : List Value) (M : Mm) (nc ns : Nat) : Run sa E MC MS HX Q X kX11_fairHours 29 L st M nc ns = bk sa E MC MS HX (Run sa E MC MS HX Q X kX11_fairHours) Q X kX11_fairHours_29 L st M nc ns := Run_eq sa E MC MS HX Q X _ _ _ _ _ _ _
theorem rX11_fairHours_30 (sa : Nat → Nat) (E : Nat → Sem) (MC MS : Nat) (HX : Nat → Nat → Option Nat) (Q : Option Value → Mm → Prop) (X : Nat → Mm → Prop) (L : List Slot) (st : List Value) (M : Mm) (nc ns : Nat) : Run sa E MC MS HX Q X kX11_fairHours 30 L st M nc ns = bk sa E MC MS HX (Run sa E MC MS HX Q X kX11_fairHours) Q X kX11_fairHours_30 L st M nc ns := Run_eq sa E MC MS HX Q X _ _ _ _ _ _ _
theorem rX11_fairHours_37 (sa : Nat → Nat) (E : Nat → Sem) (MC MS : Nat) (HX : Nat → Nat → Option Nat) (Q : Option Value → Mm → Prop) (X : Nat → Mm → Prop) (L : List Slot) (st : List Value) (M : Mm) (nc ns : Nat) : Run sa E MC MS HX Q X kX11_fairHours 37 L st M nc ns = bk sa E MC MS HX (Run sa E MC MS HX Q X kX11_fairHours) Q X kX11_fairHours_37 L st M nc ns := Run_eq sa E MC MS HX Q X _ _ _ _ _ _ _
theorem rX11_fairHours_39 (sa : Nat → Nat) (E : Nat → Sem) (MC MS : Nat) (HX : Nat → Nat → Option Nat) (Q : Option Value → Mm → Prop) (X : Nat → Mm → Prop) (L : List Slot) (st : List Value) (M : Mm) (nc ns : Nat) : Run sa E MC MS HX Q X kX11_fairHours 39 L st M nc ns = bk sa E MC MS HX (Run sa E MC MS HX Q X kX11_fairHours) Q X kX11_fairHours_39 L st M nc ns := Run_eq sa E MC MS HX Q X _ _ _ _ _ _ _
theorem rX11_fairHours_50 (sa : Nat → Nat) (E : Nat → Sem) (MC MS : Nat) (HX : Nat → Nat → Option Nat) (Q : Option Value → Mm → Prop) (X : Nat → Mm → Prop) (L : List Slot) (st : List Value) (M : Mm) (nc ns : Nat) : Run sa E MC MS HX Q X kX11_fairHours 50 L st M nc ns = bk sa E MC MS HX (Run sa E MC MS HX Q X kX11_fairHours) Q X kX11_fairHours_50 L st M nc ns := Run_eq sa E MC MS HX Q X _ _ _ _ _ _ _
theorem rX11_fairHours_72 (sa : Nat → Nat) (E : Nat → Sem) (MC MS : Nat) (HX : Nat → Nat → Option Nat) (Q : Option Value → Mm → Prop) (X : Nat → Mm → Prop) (L : List Slot) (st : List Value) (M : Mm) (nc ns : Nat) : Run sa E MC MS HX Q X kX11_fairHours 72 L st M nc ns = bk sa E MC MS HX (Run sa E MC MS HX Q X kX11_fairHours) Q X kX11_fairHours_72 L st M nc ns := Run_eq sa E MC MS HX Q X _ _ _ _ _ _ _
theorem rX11_fairHours_78 (sa : Nat → Nat) (E : Nat → Sem) (MC MS : Nat) (HX : Nat → Nat → Option Nat) (Q : Option Value → Mm → Prop) (X : Nat → Mm → Prop) (L : List Slot) (st : List Value) (M : Mm) (nc ns : Nat) : Run sa E MC MS HX Q X kX11_fairHours 78 L st M nc ns = bk sa E MC MS HX (Run sa E MC MS HX Q X kX11_fairHours) Q X kX11_fairHours_78 L st M nc ns := Run_eq sa E MC MS HX Q X _ _ _ _ _ _ _
theorem rX11_fairHours_92 (sa : Nat → Nat) (E : Nat → Sem) (MC MS : Nat) (HX : Nat → Nat → Option Nat) (Q : Option Value → Mm → Prop) (X : Nat → Mm → Prop) (L : List Slot) (st : List Value) (M : Mm) (nc ns : Nat) : Run sa E MC MS HX Q X kX11_fairHours 92 L st M nc ns = bk sa E MC MS HX (Run sa E MC MS HX Q X kX11_fairHours) Q X kX11_fairHours_92 L st M nc ns := Run_eq sa E MC MS HX Q X _ _ _ _ _ _ _
theorem rX11_fairHours_146 (sa : Nat → Nat) (E : Nat → Sem) (MC MS : Nat) (HX : Nat → Nat → Option Nat) (Q : Option Value → Mm → Prop) (X : Nat → Mm → Prop) (L : List Slot) (st : List Value) (M : Mm) (nc ns : Nat) : Run sa E MC MS HX Q X kX11_fairHours 146 L st M nc ns = bk sa E MC MS HX (Run sa E MC MS HX Q X kX11_fairHours) Q X kX11_fairHours_146 L st M nc ns := Run_eq sa E MC MS HX Q X _ _ _ _ _ _ _
theorem rX11_fairHours_149 (sa : Nat → Nat) (E : Nat → Sem) (MC MS : Nat) (HX : Nat → Nat → Option Nat) (Q : Option Value → Mm → Prop) (X : Nat → Mm → Prop) (L : List Slot) (st : List Value) (M : Mm) (nc ns : Nat) : Run sa E MC MS HX Q X kX11_fairHours 149 L st M nc ns = bk sa E MC MS HX (Run sa E MC MS HX Q X kX11_fairHours) Q X kX11_fairHours_149 L st M nc ns := Run_eq sa E MC MS HX Q X _ _ _ _ _ _ _
theorem rX11_fairHours_155 (sa : Nat → Nat) (E : Nat → Sem) (MC MS : Nat) (HX : Nat → Nat → Option Nat) (Q : Option Value → Mm → Prop) (X : Nat → Mm → Prop) (L : List Slot) (st : List Value) (M : Mm) (nc ns : Nat) : Run sa E MC MS HX Q X kX11_fairHours 155 L st M nc ns = bk sa E MC MS HX (Run sa E MC MS HX Q X kX11_fairHours) Q X kX11_fairHours_155 L st M nc ns := Run_eq sa E MC MS HX Q X _ _ _ _ _ _ _
theorem rX11_fairHours_175 (sa : Nat → Nat) (E : Nat → Sem) (MC MS : Nat) (HX : Nat → Nat → Option Nat) (Q : Option Value → Mm → Prop) (X : Nat → Mm → Prop) (L : List Slot) (st : List Value) (M : Mm) (nc ns : Nat) : Run sa E MC MS HX Q X kX11_fairHours 175 L st M nc ns = bk sa E MC MS HX (Run sa E MC MS HX Q X kX11_fairHours) Q X kX11_fairHours_175 L st M nc ns := Run_eq sa E MC MS HX Q X _ _ _ _ _ _ _
theorem rX11_fairHours_176 (sa : Nat → Nat) (E : Nat → Sem) (MC MS : Nat) (HX : Nat → Nat → Option Nat) (Q : Option Value → Mm → Prop) (X : Nat → Mm → Prop) (L : List Slot) (st : List Value) (M : Mm) (nc ns : Nat) : Run sa E MC MS HX Q X kX11_fairHours 176 L st M nc ns = bk sa E MC MS HX (Run sa E MC MS HX Q X kX11_fairHours) Q X kX11_fairHours_176 L st M nc ns := Run_eq sa E MC MS HX Q X _ _ _ _ _ _ _
def kX11_field_0 : List Item := [(0, .sipush 221, 3, 0, 0, 0, 0, 0, [], .int 221),
    (3, .bipush 11, 2, 0, 0, 0, 0, 0, [], .int 11),
    (5, .iload_n 0, 1, 1, 0, 0, 0, 0, [], .null),
    (6, .imul, 1, 8, 0, 2, 0, 0, [], .null),
    (7, .iadd, 1, 8, 0, 0, 0, 0, [], .null),
    (8, .ireturn, 1, 56, 0, 0, 0, 0, [], .null)]
def kX11_field : Code9 := [(0, kX11_field_0)]
theorem rX11_field_0 (sa : Nat → Nat) (E : Nat → Sem) (MC MS : Nat) (HX : Nat → Nat → Option Nat) (Q : Option Value → Mm → Prop) (X : Nat → Mm → Prop) (L : List Slot) (st : List Value) (M : Mm) (nc ns : Nat) : Run sa E MC MS HX Q X kX11_field 0 L st M nc ns = bk sa E MC MS HX (Run sa E MC MS HX Q X kX11_field) Q X kX11_field_0 L st M nc ns := Run_eq sa E MC MS HX Q X _ _ _ _ _ _ _
def kX11_fieldCount_0 : List Item := [(0, .aload_n 0, 1, 3, 0, 0, 0, 0, [], .null),
    (1, .iconst 0, 1, 0, 0, 0, 0, 0, [], .int 0),
    (2, .putfield 42, 3, 27, 11, 0, 0, 0, [], .null),
    (5, .aload_n 0, 1, 3, 0, 0, 0, 0, [], .null),
    (6, .getfield 17, 3, 26, 11, 8, 0, 0, [], .null),
    (9, .iconst 1, 1, 0, 0, 0, 0, 0, [], .int 1),
    (10, .iaload, 1, 31, 0, 0, 0, 0, [], .null),
    (11, .ireturn, 1, 56, 0, 0, 0, 0, [], .null)]
def kX11_fieldCount : Code9 := [(0, kX11_fieldCount_0)]
theorem rX11_fieldCount_0 (sa : Nat → Nat) (E : Nat → Sem) (MC MS : Nat) (HX : Nat → Nat → Option Nat) (Q : Option Value → Mm → Prop) (X : Nat → Mm → Prop) (L : List Slot) (st : List Value) (M : Mm) (nc ns : Nat) : Run sa E MC MS HX Q X kX11_fieldCount 0 L st M nc ns = bk sa E MC MS HX (Run sa E MC MS HX Q X kX11_fieldCount) Q X kX11_fieldCount_0 L st M nc ns := Run_eq sa E MC MS HX Q X _ _ _ _ _ _ _
def kX11_findOpen_0 : List Item := [(0, .iconst 0, 1, 0, 0, 0, 0, 0, [], .int 0),
    (1, .istore_n 2, 1, 4, 2, 0, 0, 0, [], .null),
    (2, .nop, 0, 60, 2, 0, 0, 0, [], .null)]
def kX11_findOpen_2 : List Item := [(2, .iload_n 2, 1, 1, 2, 0, 0, 0, [], .null),
    (3, .aload_n 1, 1, 3, 1, 0, 0, 0, [], .null),
    (4, .iconst 0, 1, 0, 0, 0, 0, 0, [], .int 0),
    (5, .iaload, 1, 31, 0, 0, 0, 0, [], .null),
    (6, .if_icmp .ge 16, 3, 21, 22, 3, 0, 0, [], .null),
    (9, .aload_n 0, 1, 3, 0, 0, 0, 0, [], .null),
    (10, .getfield 39, 3, 26, 11, 18, 0, 0, [], .null),
    (13, .iload_n 2, 1, 1, 2, 0, 0, 0, [], .null),
    (14, .iconst 0, 1, 0, 0, 0, 0, 0, [], .int 0),
    (15, .bastore, 1, 35, 1, 0, 0, 0, [], .null),
    (16, .iinc 2 1, 3, 7, 2, 0, 0, 0, [], .int 1),
    (19, .goto (-17), 3, 22, 2, 0, 0, 0, [], .null)]
def kX11_findOpen_22 : List Item := [(22, .iconst 0, 1, 0, 0, 0, 0, 0, [], .int 0),
    (23, .istore_n 2, 1, 4, 2, 0, 0, 0, [], .null),
    (24, .nop, 0, 60, 24, 0, 0, 0, [], .null)]
def kX11_findOpen_24 : List Item := [(24, .iload_n 2, 1, 1, 2, 0, 0, 0, [], .null),
    (25, .aload_n 1, 1, 3, 1, 0, 0, 0, [], .null),
    (26, .iconst 1, 1, 0, 0, 0, 0, 0, [], .int 1),
    (27, .iaload, 1, 31, 0, 0, 0, 0, [], .null),
    (28, .if_icmp .ge 41, 3, 21, 69, 3, 0, 0, [], .null),
    (31, .aload_n 0, 1, 3, 0, 0, 0, 0, [], .null),
    (32, .getfield 35, 3, 26, 11, 17, 0, 0, [], .null),
    (35, .iload_n 2, 1, 1, 2, 0, 0, 0, [], .null),
    (36, .aload_n 1, 1, 3, 1, 0, 0, 0, [], .null),
    (37, .iload_n 2, 1, 1, 2, 0, 0, 0, [], .null),
    (38, .invokestatic 210, 3, 48, 156, 2, 0, 0, [], .null),
    (41, .bastore, 1, 35, 1, 0, 0, 0, [], .null),
    (42, .aload_n 0, 1, 3, 0, 0, 0, 0, [], .null),
    (43, .getfield 35, 3, 26, 11, 17, 0, 0, [], .null),
    (46, .iload_n 2, 1, 1, 2, 0, 0, 0, [], .null),
    (47, .baload, 1, 31, 1, 0, 0, 0, [], .null),
    (48, .ifCond .eq 15, 3, 20, 63, 0, 0, 0, [], .null),
    (51, .aload_n 0, 1, 3, 0, 0, 0, 0, [], .null),
    (52, .getfield 39, 3, 26, 11, 18, 0, 0, [], .null),
    (55, .aload_n 1, 1, 3, 1, 0, 0, 0, [], .null),
    (56, .iload_n 2, 1, 1, 2, 0, 0, 0, [], .null),
    (57, .invokestatic 140, 3, 48, 131, 1, 0, 0, [], .null),
    (60, .iaload, 1, 31, 0, 0, 0, 0, [], .null),
    (61, .iconst 1, 1, 0, 0, 0, 0, 0, [], .int 1),
    (62, .bastore, 1, 35, 1, 0, 0, 0, [], .null),
    (63, .iinc 2 1, 3, 7, 2, 0, 0, 0, [], .int 1),
    (66, .goto (-42), 3, 22, 24, 0, 0, 0, [], .null)]
def kX11_findOpen_63 : List Item := [(63, .iinc 2 1, 3, 7, 2, 0, 0, 0, [], .int 1),
    (66, .goto (-42), 3, 22, 24, 0, 0, 0, [], .null)]
def kX11_findOpen_69 : List Item := [(69, .aload_n 1, 1, 3, 1, 0, 0, 0, [], .null),
    (70, .iconst 0, 1, 0, 0, 0, 0, 0, [], .int 0),
    (71, .iaload, 1, 31, 0, 0, 0, 0, [], .null),
    (72, .iconst 1, 1, 0, 0, 0, 0, 0, [], .int 1),
    (73, .isub, 1, 8, 0, 1, 0, 0, [], .null),
    (74, .istore_n 2, 1, 4, 2, 0, 0, 0, [], .null),
    (75, .nop, 0, 60, 75, 0, 0, 0, [], .null)]
def kX11_findOpen_75 : List Item := [(75, .iload_n 2, 1, 1, 2, 0, 0, 0, [], .null),
    (76, .ifCond .le 30, 3, 20, 106, 5, 0, 0, [], .null),
    (79, .aload_n 0, 1, 3, 0, 0, 0, 0, [], .null),
    (80, .getfield 39, 3, 26, 11, 18, 0, 0, [], .null),
    (83, .iload_n 2, 1, 1, 2, 0, 0, 0, [], .null),
    (84, .baload, 1, 31, 1, 0, 0, 0, [], .null),
    (85, .ifCond .eq 15, 3, 20, 100, 0, 0, 0, [], .null),
    (88, .aload_n 0, 1, 3, 0, 0, 0, 0, [], .null),
    (89, .getfield 39, 3, 26, 11, 18, 0, 0, [], .null),
    (92, .aload_n 1, 1, 3, 1, 0, 0, 0, [], .null),
    (93, .iload_n 2, 1, 1, 2, 0, 0, 0, [], .null),
    (94, .invokestatic 133, 3, 48, 113, 1, 0, 0, [], .null),
    (97, .iaload, 1, 31, 0, 0, 0, 0, [], .null),
    (98, .iconst 1, 1, 0, 0, 0, 0, 0, [], .int 1),
    (99, .bastore, 1, 35, 1, 0, 0, 0, [], .null),
    (100, .iinc 2 (-1), 3, 7, 2, 0, 0, 0, [], .int (-1)),
    (103, .goto (-28), 3, 22, 75, 0, 0, 0, [], .null)]
def kX11_findOpen_100 : List Item := [(100, .iinc 2 (-1), 3, 7, 2, 0, 0, 0, [], .int (-1)),
    (103, .goto (-28), 3, 22, 75, 0, 0, 0, [], .null)]
def kX11_findOpen_106 : List Item := [(106, .return_, 1, 55, 0, 0, 0, 0, [], .null)]
def kX11_findOpen : Code9 := [(0, kX11_findOpen_0), (2, kX11_findOpen_2), (22, kX11_findOpen_22), (24, kX11_findOpen_24), (63, kX11_findOpen_63), (69, kX11_findOpen_69), (75, kX11_findOpen_75), (100, kX11_findOpen_100), (106, kX11_findOpen_106)]
theorem rX11_findOpen_0 (sa : Nat → Nat) (E : Nat → Sem) (MC MS : Nat) (HX : Nat → Nat → Option Nat) (Q : Option Value → Mm → Prop) (X : Nat → Mm → Prop) (L : List Slot) (st : List Value) (M : Mm) (nc ns : Nat) : Run sa E MC MS HX Q X kX11_findOpen 0 L st M nc ns = bk sa E MC MS HX (Run sa E MC MS HX Q X kX11_findOpen) Q X kX11_findOpen_0 L st M nc ns := Run_eq sa E MC MS HX Q X _ _ _ _ _ _ _
theorem rX11_findOpen_2 (sa : Nat → Nat) (E : Nat → Sem) (MC MS : Nat) (HX : Nat → Nat → Option Nat) (Q : Option Value → Mm → Prop) (X : Nat → Mm → Prop) (L : List Slot) (st : List Value) (M : Mm) (nc ns : Nat) : Run sa E MC MS HX Q X kX11_findOpen 2 L st M nc ns = bk sa E MC MS HX (Run sa E MC MS HX Q X kX11_findOpen) Q X kX11_findOpen_2 L st M nc ns := Run_eq sa E MC MS HX Q X _ _ _ _ _ _ _
theorem rX11_findOpen_22 (sa : Nat → Nat) (E : Nat → Sem) (MC MS : Nat) (HX : Nat → Nat → Option Nat) (Q : Option Value → Mm → Prop) (X : Nat → Mm → Prop) (L : List Slot) (st : List Value) (M : Mm) (nc ns : Nat) : Run sa E MC MS HX Q X kX11_findOpen 22 L st M nc ns = bk sa E MC MS HX (Run sa E MC MS HX Q X kX11_findOpen) Q X kX11_findOpen_22 L st M nc ns := Run_eq sa E MC MS HX Q X _ _ _ _ _ _ _
theorem rX11_findOpen_24 (sa : Nat → Nat) (E : Nat → Sem) (MC MS : Nat) (HX : Nat → Nat → Option Nat) (Q : Option Value → Mm → Prop) (X : Nat → Mm → Prop) (L : List Slot) (st : List Value) (M : Mm) (nc ns : Nat) : Run sa E MC MS HX Q X kX11_findOpen 24 L st M nc ns = bk sa E MC MS HX (Run sa E MC MS HX Q X kX11_findOpen) Q X kX11_findOpen_24 L st M nc ns := Run_eq sa E MC MS HX Q X _ _ _ _ _ _ _
theorem rX11_findOpen_63 (sa : Nat → Nat) (E : Nat → Sem) (MC MS : Nat) (HX : Nat → Nat → Option Nat) (Q : Option Value → Mm → Prop) (X : Nat → Mm → Prop) (L : List Slot) (st : List Value) (M : Mm) (nc ns : Nat) : Run sa E MC MS HX Q X kX11_findOpen 63 L st M nc ns = bk sa E MC MS HX (Run sa E MC MS HX Q X kX11_findOpen) Q X kX11_findOpen_63 L st M nc ns := Run_eq sa E MC MS HX Q X _ _ _ _ _ _ _
theorem rX11_findOpen_69 (sa : Nat → Nat) (E : Nat → Sem) (MC MS : Nat) (HX : Nat → Nat → Option Nat) (Q : Option Value → Mm → Prop) (X : Nat → Mm → Prop) (L : List Slot) (st : List Value) (M : Mm) (nc ns : Nat) : Run sa E MC MS HX Q X kX11_findOpen 69 L st M nc ns = bk sa E MC MS HX (Run sa E MC MS HX Q X kX11_findOpen) Q X kX11_findOpen_69 L st M nc ns := Run_eq sa E MC MS HX Q X _ _ _ _ _ _ _
theorem rX11_findOpen_75 (sa : Nat → Nat) (E : Nat → Sem) (MC MS : Nat) (HX : Nat → Nat → Option Nat) (Q : Option Value → Mm → Prop) (X : Nat → Mm → Prop) (L : List Slot) (st : List Value) (M : Mm) (nc ns : Nat) : Run sa E MC MS HX Q X kX11_findOpen 75 L st M nc ns = bk sa E MC MS HX (Run sa E MC MS HX Q X kX11_findOpen) Q X kX11_findOpen_75 L st M nc ns := Run_eq sa E MC MS HX Q X _ _ _ _ _ _ _
theorem rX11_findOpen_100 (sa : Nat → Nat) (E : Nat → Sem) (MC MS : Nat) (HX : Nat → Nat → Option Nat) (Q : Option Value → Mm → Prop) (X : Nat → Mm → Prop) (L : List Slot) (st : List Value) (M : Mm) (nc ns : Nat) : Run sa E MC MS HX Q X kX11_findOpen 100 L st M nc ns = bk sa E MC MS HX (Run sa E MC MS HX Q X kX11_findOpen) Q X kX11_findOpen_100 L st M nc ns := Run_eq sa E MC MS HX Q X _ _ _ _ _ _ _
theorem rX11_findOpen_106 (sa : Nat → Nat) (E : Nat → Sem) (MC MS : Nat) (HX : Nat → Nat → Option Nat) (Q : Option Value → Mm → Prop) (X : Nat → Mm → Prop) (L : List Slot) (st : List Value) (M : Mm) (nc ns : Nat) : Run sa E MC MS HX Q X kX11_findOpen 106 L st M nc ns = bk sa E MC MS HX (Run sa E MC MS HX Q X kX11_findOpen) Q X kX11_findOpen_106 L st M nc ns := Run_eq sa E MC MS HX Q X _ _ _ _ _ _ _
def kX11_fines_0 : List Item := [(0, .aload_n 0, 1, 3, 0, 0, 0, 0, [], .null),
    (1, .iconst 0, 1, 0, 0, 0, 0, 0, [], .int 0),
    (2, .putfield 42, 3, 27, 11, 0, 0, 0, [], .null),
    (5, .aload_n 0, 1, 3, 0, 0, 0, 0, [], .null),
    (6, .iload_n 1, 1, 1, 1, 0, 0, 0, [], .null),
    (7, .invokevirtual 242, 3, 48, 154, 2, 0, 0, [11], .null),
    (10, .ifCond .eq 7, 3, 20, 17, 0, 0, 0, [], .null),
    (13, .iconst 0, 1, 0, 0, 0, 0, 0, [], .int 0),
    (14, .goto 13, 3, 22, 27, 0, 0, 0, [], .null)]
def kX11_fines_17 : List Item := [(17, .aload_n 0, 1, 3, 0, 0, 0, 0, [], .null),
    (18, .getfield 17, 3, 26, 11, 8, 0, 0, [], .null),
    (21, .sipush 387, 3, 0, 0, 0, 0, 0, [], .int 387),
    (24, .iload_n 1, 1, 1, 1, 0, 0, 0, [], .null),
    (25, .iadd, 1, 8, 0, 0, 0, 0, [], .null),
    (26, .iaload, 1, 31, 0, 0, 0, 0, [], .null),
    (27, .ireturn, 1, 56, 0, 0, 0, 0, [], .null)]
def kX11_fines_27 : List Item := [(27, .ireturn, 1, 56, 0, 0, 0, 0, [], .null)]
def kX11_fines : Code9 := [(0, kX11_fines_0), (17, kX11_fines_17), (27, kX11_fines_27)]
theorem rX11_fines_0 (sa : Nat → Nat) (E : Nat → Sem) (MC MS : Nat) (HX : Nat → Nat → Option Nat) (Q : Option Value → Mm → Prop) (X : Nat → Mm → Prop) (L : List Slot) (st : List Value) (M : Mm) (nc ns : Nat) : Run sa E MC MS HX Q X kX11_fines 0 L st M nc ns = bk sa E MC MS HX (Run sa E MC MS HX Q X kX11_fines) Q X kX11_fines_0 L st M nc ns := Run_eq sa E MC MS HX Q X _ _ _ _ _ _ _
theorem rX11_fines_17 (sa : Nat → Nat) (E : Nat → Sem) (MC MS : Nat) (HX : Nat → Nat → Option Nat) (Q : Option Value → Mm → Prop) (X : Nat → Mm → Prop) (L : List Slot) (st : List Value) (M : Mm) (nc ns : Nat) : Run sa E MC MS HX Q X kX11_fines 17 L st M nc ns = bk sa E MC MS HX (Run sa E MC MS HX Q X kX11_fines) Q X kX11_fines_17 L st M nc ns := Run_eq sa E MC MS HX Q X _ _ _ _ _ _ _
theorem rX11_fines_27 (sa : Nat → Nat) (E : Nat → Sem) (MC MS : Nat) (HX : Nat → Nat → Option Nat) (Q : Option Value → Mm → Prop) (X : Nat → Mm → Prop) (L : List Slot) (st : List Value) (M : Mm) (nc ns : Nat) : Run sa E MC MS HX Q X kX11_fines 27 L st M nc ns = bk sa E MC MS HX (Run sa E MC MS HX Q X kX11_fines) Q X kX11_fines_27 L st M nc ns := Run_eq sa E MC MS HX Q X _ _ _ _ _ _ _
def kX11_force_0 : List Item := [(0, .aload_n 0, 1, 3, 0, 0, 0, 0, [], .null),
    (1, .iconst 0, 1, 0, 0, 0, 0, 0, [], .int 0),
    (2, .putfield 42, 3, 27, 11, 0, 0, 0, [], .null),
    (5, .aload_n 0, 1, 3, 0, 0, 0, 0, [], .null),
    (6, .iload_n 1, 1, 1, 1, 0, 0, 0, [], .null),
    (7, .invokevirtual 239, 3, 48, 153, 2, 0, 0, [11], .null),
    (10, .ifCond .ne 32, 3, 20, 42, 1, 0, 0, [], .null),
    (13, .aload_n 0, 1, 3, 0, 0, 0, 0, [], .null),
    (14, .aload_n 0, 1, 3, 0, 0, 0, 0, [], .null),
    (15, .getfield 17, 3, 26, 11, 8, 0, 0, [], .null),
    (18, .iload_n 1, 1, 1, 1, 0, 0, 0, [], .null),
    (19, .invokestatic 140, 3, 48, 131, 1, 0, 0, [], .null),
    (22, .bipush 10, 2, 0, 0, 0, 0, 0, [], .int 10),
    (24, .iadd, 1, 8, 0, 0, 0, 0, [], .null),
    (25, .iaload, 1, 31, 0, 0, 0, 0, [], .null),
    (26, .iconst 1, 1, 0, 0, 0, 0, 0, [], .int 1),
    (27, .if_icmp .ne 7, 3, 21, 34, 1, 0, 0, [], .null),
    (30, .iconst 1, 1, 0, 0, 0, 0, 0, [], .int 1),
    (31, .goto 4, 3, 22, 35, 0, 0, 0, [], .null)]
def kX11_force_34 : List Item := [(34, .iconst 0, 1, 0, 0, 0, 0, 0, [], .int 0),
    (35, .iconst 2, 1, 0, 0, 0, 0, 0, [], .int 2),
    (36, .invokevirtual 169, 3, 48, 129, 3, 0, 0, [11], .null),
    (39, .ifCond .eq 5, 3, 20, 44, 0, 0, 0, [], .null),
    (42, .iconst 0, 1, 0, 0, 0, 0, 0, [], .int 0),
    (43, .ireturn, 1, 56, 0, 0, 0, 0, [], .null)]
def kX11_force_35 : List Item := [(35, .iconst 2, 1, 0, 0, 0, 0, 0, [], .int 2),
    (36, .invokevirtual 169, 3, 48, 129, 3, 0, 0, [11], .null),
    (39, .ifCond .eq 5, 3, 20, 44, 0, 0, 0, [], .null),
    (42, .iconst 0, 1, 0, 0, 0, 0, 0, [], .int 0),
    (43, .ireturn, 1, 56, 0, 0, 0, 0, [], .null)]
def kX11_force_42 : List Item := [(42, .iconst 0, 1, 0, 0, 0, 0, 0, [], .int 0),
    (43, .ireturn, 1, 56, 0, 0, 0, 0, [], .null)]
def kX11_force_44 : List Item := [(44, .aload_n 0, 1, 3, 0, 0, 0, 0, [], .null),
    (45, .invokevirtual 176, 3, 48, 165, 1, 0, 0, [11], .null),
    (48, .aload_n 0, 1, 3, 0, 0, 0, 0, [], .null),
    (49, .getfield 17, 3, 26, 11, 8, 0, 0, [], .null),
    (52, .iload_n 1, 1, 1, 1, 0, 0, 0, [], .null),
    (53, .invokestatic 140, 3, 48, 131, 1, 0, 0, [], .null),
    (56, .bipush 10, 2, 0, 0, 0, 0, 0, [], .int 10),
    (58, .iadd, 1, 8, 0, 0, 0, 0, [], .null),
    (59, .iconst 1, 1, 0, 0, 0, 0, 0, [], .int 1),
    (60, .iastore, 1, 35, 0, 0, 0, 0, [], .null),
    (61, .iconst 0, 1, 0, 0, 0, 0, 0, [], .int 0),
    (62, .istore_n 2, 1, 4, 2, 0, 0, 0, [], .null),
    (63, .iconst 0, 1, 0, 0, 0, 0, 0, [], .int 0),
    (64, .istore_n 3, 1, 4, 3, 0, 0, 0, [], .null),
    (65, .nop, 0, 60, 65, 0, 0, 0, [], .null)]
def kX11_force_65 : List Item := [(65, .iload_n 3, 1, 1, 3, 0, 0, 0, [], .null),
    (66, .aload_n 0, 1, 3, 0, 0, 0, 0, [], .null),
    (67, .getfield 17, 3, 26, 11, 8, 0, 0, [], .null),
    (70, .iconst 1, 1, 0, 0, 0, 0, 0, [], .int 1),
    (71, .iaload, 1, 31, 0, 0, 0, 0, [], .null),
    (72, .if_icmp .ge 24, 3, 21, 96, 3, 0, 0, [], .null),
    (75, .iload_n 2, 1, 1, 2, 0, 0, 0, [], .null),
    (76, .aload_n 0, 1, 3, 0, 0, 0, 0, [], .null),
    (77, .getfield 17, 3, 26, 11, 8, 0, 0, [], .null),
    (80, .iload_n 3, 1, 1, 3, 0, 0, 0, [], .null),
    (81, .invokestatic 140, 3, 48, 131, 1, 0, 0, [], .null),
    (84, .bipush 10, 2, 0, 0, 0, 0, 0, [], .int 10),
    (86, .iadd, 1, 8, 0, 0, 0, 0, [], .null),
    (87, .iaload, 1, 31, 0, 0, 0, 0, [], .null),
    (88, .iadd, 1, 8, 0, 0, 0, 0, [], .null),
    (89, .istore_n 2, 1, 4, 2, 0, 0, 0, [], .null),
    (90, .iinc 3 1, 3, 7, 3, 0, 0, 0, [], .int 1),
    (93, .goto (-28), 3, 22, 65, 0, 0, 0, [], .null)]
def kX11_force_96 : List Item := [(96, .iload_n 2, 1, 1, 2, 0, 0, 0, [], .null),
    (97, .ireturn, 1, 56, 0, 0, 0, 0, [], .null)]
def kX11_force : Code9 := [(0, kX11_force_0), (34, kX11_force_34), (35, kX11_force_35), (42, kX11_force_42), (44, kX11_force_44), (65, kX11_force_65), (96, kX11_force_96)]
theorem rX11_force_0 (sa : Nat → Nat) (E : Nat → Sem) (MC MS : Nat) (HX : Nat → Nat → Option Nat) (Q : Option Value → Mm → Prop) (X : Nat → Mm → Prop) (L : List Slot) (st : List Value) (M : Mm) (nc ns : Nat) : Run sa E MC MS HX Q X kX11_force 0 L st M nc ns = bk sa E MC MS HX (Run sa E MC MS HX Q X kX11_force) Q X kX11_force_0 L st M nc ns := Run_eq sa E MC MS HX Q X _ _ _ _ _ _ _
theorem rX11_force_34 (sa : Nat → Nat) (E : Nat → Sem) (MC MS : Nat) (HX : Nat → Nat → Option Nat) (Q : Option Value → Mm → Prop) (X : Nat → Mm → Prop) (L : List Slot) (st : List Value) (M : Mm) (nc ns : Nat) : Run sa E MC MS HX Q X kX11_force 34 L st M nc ns = bk sa E MC MS HX (Run sa E MC MS HX Q X kX11_force) Q X kX11_force_34 L st M nc ns := Run_eq sa E MC MS HX Q X _ _ _ _ _ _ _
theorem rX11_force_35 (sa : Nat → Nat) (E : Nat → Sem) (MC MS : Nat) (HX : Nat → Nat → Option Nat) (Q : Option Value → Mm → Prop) (X : Nat → Mm → Prop) (L : List Slot) (st : List Value) (M : Mm) (nc ns : Nat) : Run sa E MC MS HX Q X kX11_force 35 L st M nc ns = bk sa E MC MS HX (Run sa E MC MS HX Q X kX11_force) Q X kX11_force_35 L st M nc ns := Run_eq sa E MC MS HX Q X _ _ _ _ _ _ _
theorem rX11_force_42 (sa : Nat → Nat) (E : Nat → Sem) (MC MS : Nat) (HX : Nat → Nat → Option Nat) (Q : Option Value → Mm → Prop) (X : Nat → Mm → Prop) (L : List Slot) (st : List Value) (M : Mm) (nc ns : Nat) : Run sa E MC MS HX Q X kX11_force 42 L st M nc ns = bk sa E MC MS HX (Run sa E MC MS HX Q X kX11_force) Q X kX11_force_42 L st M nc ns := Run_eq sa E MC MS HX Q X _ _ _ _ _ _ _
theorem rX11_force_44 (sa : Nat → Nat) (E : Nat → Sem) (MC MS : Nat) (HX : Nat → Nat → Option Nat) (Q : Option Value → Mm → Prop) (X : Nat → Mm → Prop) (L : List Slot) (st : List Value) (M : Mm) (nc ns : Nat) : Run sa E MC MS HX Q X kX11_force 44 L st M nc ns = bk sa E MC MS HX (Run sa E MC MS HX Q X kX11_force) Q X kX11_force_44 L st M nc ns := Run_eq sa E MC MS HX Q X _ _ _ _ _ _ _
theorem rX11_force_65 (sa : Nat → Nat) (E : Nat → Sem) (MC MS : Nat) (HX : Nat → Nat → Option Nat) (Q : Option Value → Mm → Prop) (X : Nat → Mm → Prop) (L : List Slot) (st : List Value) (M : Mm) (nc ns : Nat) : Run sa E MC MS HX Q X kX11_force 65 L st M nc ns = bk sa E MC MS HX (Run sa E MC MS HX Q X kX11_force) Q X kX11_force_65 L st M nc ns := Run_eq sa E MC MS HX Q X _ _ _ _ _ _ _
theorem rX11_force_96 (sa : Nat → Nat) (E : Nat → Sem) (MC MS : Nat) (HX : Nat → Nat → Option Nat) (Q : Option Value → Mm → Prop) (X : Nat → Mm → Prop) (L : List Slot) (st : List Value) (M : Mm) (nc ns : Nat) : Run sa E MC MS HX Q X kX11_force 96 L st M nc ns = bk sa E MC MS HX (Run sa E MC MS HX Q X kX11_force) Q X kX11_force_96 L st M nc ns := Run_eq sa E MC MS HX Q X _ _ _ _ _ _ _
def kX11_guard_0 : List Item := [(0, .aload_n 0, 1, 3, 0, 0, 0, 0, [], .null),
    (1, .iconst 3, 1, 0, 0, 0, 0, 0, [], .int 3),
    (2, .iaload, 1, 31, 0, 0, 0, 0, [], .null),
    (3, .ifCond .ne 7, 3, 20, 10, 1, 0, 0, [], .null),
    (6, .iconst (-1), 1, 0, 0, 0, 0, 0, [], .int (-1)),
    (7, .goto 12, 3, 22, 19, 0, 0, 0, [], .null)]
def kX11_guard_10 : List Item := [(10, .aload_n 0, 1, 3, 0, 0, 0, 0, [], .null),
    (11, .sipush 377, 3, 0, 0, 0, 0, 0, [], .int 377),
    (14, .aload_n 0, 1, 3, 0, 0, 0, 0, [], .null),
    (15, .iconst 4, 1, 0, 0, 0, 0, 0, [], .int 4),
    (16, .iaload, 1, 31, 0, 0, 0, 0, [], .null),
    (17, .iadd, 1, 8, 0, 0, 0, 0, [], .null),
    (18, .iaload, 1, 31, 0, 0, 0, 0, [], .null),
    (19, .ireturn, 1, 56, 0, 0, 0, 0, [], .null)]
def kX11_guard_19 : List Item := [(19, .ireturn, 1, 56, 0, 0, 0, 0, [], .null)]
def kX11_guard : Code9 := [(0, kX11_guard_0), (10, kX11_guard_10), (19, kX11_guard_19)]
theorem rX11_guard_0 (sa : Nat → Nat) (E : Nat → Sem) (MC MS : Nat) (HX : Nat → Nat → Option Nat) (Q : Option Value → Mm → Prop) (X : Nat → Mm → Prop) (L : List Slot) (st : List Value) (M : Mm) (nc ns : Nat) : Run sa E MC MS HX Q X kX11_guard 0 L st M nc ns = bk sa E MC MS HX (Run sa E MC MS HX Q X kX11_guard) Q X kX11_guard_0 L st M nc ns := Run_eq sa E MC MS HX Q X _ _ _ _ _ _ _
theorem rX11_guard_10 (sa : Nat → Nat) (E : Nat → Sem) (MC MS : Nat) (HX : Nat → Nat → Option Nat) (Q : Option Value → Mm → Prop) (X : Nat → Mm → Prop) (L : List Slot) (st : List Value) (M : Mm) (nc ns : Nat) : Run sa E MC MS HX Q X kX11_guard 10 L st M nc ns = bk sa E MC MS HX (Run sa E MC MS HX Q X kX11_guard) Q X kX11_guard_10 L st M nc ns := Run_eq sa E MC MS HX Q X _ _ _ _ _ _ _
theorem rX11_guard_19 (sa : Nat → Nat) (E : Nat → Sem) (MC MS : Nat) (HX : Nat → Nat → Option Nat) (Q : Option Value → Mm → Prop) (X : Nat → Mm → Prop) (L : List Slot) (st : List Value) (M : Mm) (nc ns : Nat) : Run sa E MC MS HX Q X kX11_guard 19 L st M nc ns = bk sa E MC MS HX (Run sa E MC MS HX Q X kX11_guard) Q X kX11_guard_19 L st M nc ns := Run_eq sa E MC MS HX Q X _ _ _ _ _ _ _
def kX11_guardAt_0 : List Item := [(0, .aload_n 0, 1, 3, 0, 0, 0, 0, [], .null),
    (1, .iconst 0, 1, 0, 0, 0, 0, 0, [], .int 0),
    (2, .putfield 42, 3, 27, 11, 0, 0, 0, [], .null),
    (5, .aload_n 0, 1, 3, 0, 0, 0, 0, [], .null),
    (6, .getfield 17, 3, 26, 11, 8, 0, 0, [], .null),
    (9, .invokestatic 208, 3, 48, 136, 1, 0, 0, [], .null),
    (12, .ireturn, 1, 56, 0, 0, 0, 0, [], .null)]
def kX11_guardAt : Code9 := [(0, kX11_guardAt_0)]
theorem rX11_guardAt_0 (sa : Nat → Nat) (E : Nat → Sem) (MC MS : Nat) (HX : Nat → Nat → Option Nat) (Q : Option Value → Mm → Prop) (X : Nat → Mm → Prop) (L : List Slot) (st : List Value) (M : Mm) (nc ns : Nat) : Run sa E MC MS HX Q X kX11_guardAt 0 L st M nc ns = bk sa E MC MS HX (Run sa E MC MS HX Q X kX11_guardAt) Q X kX11_guardAt_0 L st M nc ns := Run_eq sa E MC MS HX Q X _ _ _ _ _ _ _
def kX11_hoursUntil_0 : List Item := [(0, .aload_n 0, 1, 3, 0, 0, 0, 0, [], .null),
    (1, .iconst 0, 1, 0, 0, 0, 0, 0, [], .int 0),
    (2, .putfield 42, 3, 27, 11, 0, 0, 0, [], .null),
    (5, .aload_n 0, 1, 3, 0, 0, 0, 0, [], .null),
    (6, .iload_n 1, 1, 1, 1, 0, 0, 0, [], .null),
    (7, .invokevirtual 239, 3, 48, 153, 2, 0, 0, [11], .null),
    (10, .ifCond .ne 26, 3, 20, 36, 1, 0, 0, [], .null),
    (13, .aload_n 0, 1, 3, 0, 0, 0, 0, [], .null),
    (14, .iload_n 2, 1, 1, 2, 0, 0, 0, [], .null),
    (15, .iconst 0, 1, 0, 0, 0, 0, 0, [], .int 0),
    (16, .bipush 100, 2, 0, 0, 0, 0, 0, [], .int 100),
    (18, .invokestatic 64, 3, 48, 139, 3, 0, 0, [], .null),
    (21, .ifCond .ne 7, 3, 20, 28, 1, 0, 0, [], .null),
    (24, .iconst 1, 1, 0, 0, 0, 0, 0, [], .int 1),
    (25, .goto 4, 3, 22, 29, 0, 0, 0, [], .null)]
def kX11_hoursUntil_28 : List Item := [(28, .iconst 0, 1, 0, 0, 0, 0, 0, [], .int 0),
    (29, .iconst 2, 1, 0, 0, 0, 0, 0, [], .int 2),
    (30, .invokevirtual 169, 3, 48, 129, 3, 0, 0, [11], .null),
    (33, .ifCond .eq 5, 3, 20, 38, 0, 0, 0, [], .null),
    (36, .iconst 0, 1, 0, 0, 0, 0, 0, [], .int 0),
    (37, .ireturn, 1, 56, 0, 0, 0, 0, [], .null)]
def kX11_hoursUntil_29 : List Item := [(29, .iconst 2, 1, 0, 0, 0, 0, 0, [], .int 2),
    (30, .invokevirtual 169, 3, 48, 129, 3, 0, 0, [11], .null),
    (33, .ifCond .eq 5, 3, 20, 38, 0, 0, 0, [], .null),
    (36, .iconst 0, 1, 0, 0, 0, 0, 0, [], .int 0),
    (37, .ireturn, 1, 56, 0, 0, 0, 0, [], .null)]
def kX11_hoursUntil_36 : List Item := [(36, .iconst 0, 1, 0, 0, 0, 0, 0, [], .int 0),
    (37, .ireturn, 1, 56, 0, 0, 0, 0, [], .null)]
def kX11_hoursUntil_38 : List Item := [(38, .aload_n 0, 1, 3, 0, 0, 0, 0, [], .null),
    (39, .getfield 17, 3, 26, 11, 8, 0, 0, [], .null),
    (42, .aload_n 0, 1, 3, 0, 0, 0, 0, [], .null),
    (43, .getfield 23, 3, 26, 11, 10, 0, 0, [], .null),
    (46, .invokestatic 179, 3, 48, 117, 2, 0, 0, [], .null),
    (49, .iload_n 1, 1, 1, 1, 0, 0, 0, [], .null),
    (50, .invokestatic 140, 3, 48, 131, 1, 0, 0, [], .null),
    (53, .istore_n 3, 1, 4, 3, 0, 0, 0, [], .null),
    (54, .iconst 0, 1, 0, 0, 0, 0, 0, [], .int 0),
    (55, .istore 4, 2, 4, 4, 0, 0, 0, [], .null),
    (57, .nop, 0, 60, 57, 0, 0, 0, [], .null)]
def kX11_hoursUntil_57 : List Item := [(57, .iload 4, 2, 1, 4, 0, 0, 0, [], .null),
    (59, .iload_n 2, 1, 1, 2, 0, 0, 0, [], .null),
    (60, .if_icmp .gt 40, 3, 21, 100, 4, 0, 0, [], .null),
    (63, .aload_n 0, 1, 3, 0, 0, 0, 0, [], .null),
    (64, .getfield 23, 3, 26, 11, 10, 0, 0, [], .null),
    (67, .iload_n 3, 1, 1, 3, 0, 0, 0, [], .null),
    (68, .bipush 7, 2, 0, 0, 0, 0, 0, [], .int 7),
    (70, .iadd, 1, 8, 0, 0, 0, 0, [], .null),
    (71, .iaload, 1, 31, 0, 0, 0, 0, [], .null),
    (72, .aload_n 0, 1, 3, 0, 0, 0, 0, [], .null),
    (73, .getfield 23, 3, 26, 11, 10, 0, 0, [], .null),
    (76, .iload_n 3, 1, 1, 3, 0, 0, 0, [], .null),
    (77, .iconst 3, 1, 0, 0, 0, 0, 0, [], .int 3),
    (78, .iadd, 1, 8, 0, 0, 0, 0, [], .null),
    (79, .iaload, 1, 31, 0, 0, 0, 0, [], .null),
    (80, .if_icmp .lt 6, 3, 21, 86, 2, 0, 0, [], .null),
    (83, .iload 4, 2, 1, 4, 0, 0, 0, [], .null),
    (85, .ireturn, 1, 56, 0, 0, 0, 0, [], .null)]
def kX11_hoursUntil_86 : List Item := [(86, .aload_n 0, 1, 3, 0, 0, 0, 0, [], .null),
    (87, .aload_n 0, 1, 3, 0, 0, 0, 0, [], .null),
    (88, .getfield 23, 3, 26, 11, 10, 0, 0, [], .null),
    (91, .invokevirtual 248, 3, 48, 168, 2, 0, 0, [11], .null),
    (94, .iinc 4 1, 3, 7, 4, 0, 0, 0, [], .int 1),
    (97, .goto (-40), 3, 22, 57, 0, 0, 0, [], .null)]
def kX11_hoursUntil_100 : List Item := [(100, .iconst (-1), 1, 0, 0, 0, 0, 0, [], .int (-1)),
    (101, .ireturn, 1, 56, 0, 0, 0, 0, [], .null)]
def kX11_hoursUntil : Code9 := [(0, kX11_hoursUntil_0), (28, kX11_hoursUntil_28), (29, kX11_hoursUntil_29), (36, kX11_hoursUntil_36), (38, kX11_hoursUntil_38), (57, kX11_hoursUntil_57), (86, kX11_hoursUntil_86), (100, kX11_hoursUntil_100)]
theorem rX11_hoursUntil_0 (sa : Nat → Nat) (E : Nat → Sem) (MC MS : Nat) (HX : Nat → Nat → Option Nat) (Q : Option Value → Mm → Prop) (X : Nat → Mm → Prop) (L : List Slot) (st : List Value) (M : Mm) (nc ns : Nat) : Run sa E MC MS HX Q X kX11_hoursUntil 0 L st M nc ns = bk sa E MC MS HX (Run sa E MC MS HX Q X kX11_hoursUntil) Q X kX11_hoursUntil_0 L st M nc ns := Run_eq sa E MC MS HX Q X _ _ _ _ _ _ _
theorem rX11_hoursUntil_28 (sa : Nat → Nat) (E : Nat → Sem) (MC MS : Nat) (HX : Nat → Nat → Option Nat) (Q : Option Value → Mm → Prop) (X : Nat → Mm → Prop) (L : List Slot) (st : List Value) (M : Mm) (nc ns : Nat) : Run sa E MC MS HX Q X kX11_hoursUntil 28 L st M nc ns = bk sa E MC MS HX (Run sa E MC MS HX Q X kX11_hoursUntil) Q X kX11_hoursUntil_28 L st M nc ns := Run_eq sa E MC MS HX Q X _ _ _ _ _ _ _
theorem rX11_hoursUntil_29 (sa : Nat → Nat) (E : Nat → Sem) (MC MS : Nat) (HX : Nat → Nat → Option Nat) (Q : Option Value → Mm → Prop) (X : Nat → Mm → Prop) (L : List Slot) (st : List Value) (M : Mm) (nc ns : Nat) : Run sa E MC MS HX Q X kX11_hoursUntil 29 L st M nc ns = bk sa E MC MS HX (Run sa E MC MS HX Q X kX11_hoursUntil) Q X kX11_hoursUntil_29 L st M nc ns := Run_eq sa E MC MS HX Q X _ _ _ _ _ _ _
theorem rX11_hoursUntil_36 (sa : Nat → Nat) (E : Nat → Sem) (MC MS : Nat) (HX : Nat → Nat → Option Nat) (Q : Option Value → Mm → Prop) (X : Nat → Mm → Prop) (L : List Slot) (st : List Value) (M : Mm) (nc ns : Nat) : Run sa E MC MS HX Q X kX11_hoursUntil 36 L st M nc ns = bk sa E MC MS HX (Run sa E MC MS HX Q X kX11_hoursUntil) Q X kX11_hoursUntil_36 L st M nc ns := Run_eq sa E MC MS HX Q X _ _ _ _ _ _ _
theorem rX11_hoursUntil_38 (sa : Nat → Nat) (E : Nat → Sem) (MC MS : Nat) (HX : Nat → Nat → Option Nat) (Q : Option Value → Mm → Prop) (X : Nat → Mm → Prop) (L : List Slot) (st : List Value) (M : Mm) (nc ns : Nat) : Run sa E MC MS HX Q X kX11_hoursUntil 38 L st M nc ns = bk sa E MC MS HX (Run sa E MC MS HX Q X kX11_hoursUntil) Q X kX11_hoursUntil_38 L st M nc ns := Run_eq sa E MC MS HX Q X _ _ _ _ _ _ _
theorem rX11_hoursUntil_57 (sa : Nat → Nat) (E : Nat → Sem) (MC MS : Nat) (HX : Nat → Nat → Option Nat) (Q : Option Value → Mm → Prop) (X : Nat → Mm → Prop) (L : List Slot) (st : List Value) (M : Mm) (nc ns : Nat) : Run sa E MC MS HX Q X kX11_hoursUntil 57 L st M nc ns = bk sa E MC MS HX (Run sa E MC MS HX Q X kX11_hoursUntil) Q X kX11_hoursUntil_57 L st M nc ns := Run_eq sa E MC MS HX Q X _ _ _ _ _ _ _
theorem rX11_hoursUntil_86 (sa : Nat → Nat) (E : Nat → Sem) (MC MS : Nat) (HX : Nat → Nat → Option Nat) (Q : Option Value → Mm → Prop) (X : Nat → Mm → Prop) (L : List Slot) (st : List Value) (M : Mm) (nc ns : Nat) : Run sa E MC MS HX Q X kX11_hoursUntil 86 L st M nc ns = bk sa E MC MS HX (Run sa E MC MS HX Q X kX11_hoursUntil) Q X kX11_hoursUntil_86 L st M nc ns := Run_eq sa E MC MS HX Q X _ _ _ _ _ _ _
theorem rX11_hoursUntil_100 (sa : Nat → Nat) (E : Nat → Sem) (MC MS : Nat) (HX : Nat → Nat → Option Nat) (Q : Option Value → Mm → Prop) (X : Nat → Mm → Prop) (L : List Slot) (st : List Value) (M : Mm) (nc ns : Nat) : Run sa E MC MS HX Q X kX11_hoursUntil 100 L st M nc ns = bk sa E MC MS HX (Run sa E MC MS HX Q X kX11_hoursUntil) Q X kX11_hoursUntil_100 L st M nc ns := Run_eq sa E MC MS HX Q X _ _ _ _ _ _ _
def kX11_in_0 : List Item := [(0, .iload_n 0, 1, 1, 0, 0, 0, 0, [], .null),
    (1, .iload_n 1, 1, 1, 1, 0, 0, 0, [], .null),
    (2, .if_icmp .lt 12, 3, 21, 14, 2, 0, 0, [], .null),
    (5, .iload_n 0, 1, 1, 0, 0, 0, 0, [], .null),
    (6, .iload_n 2, 1, 1, 2, 0, 0, 0, [], .null),
    (7, .if_icmp .gt 7, 3, 21, 14, 4, 0, 0, [], .null),
    (10, .iconst 1, 1, 0, 0, 0, 0, 0, [], .int 1),
    (11, .goto 4, 3, 22, 15, 0, 0, 0, [], .null)]
def kX11_in_14 : List Item := [(14, .iconst 0, 1, 0, 0, 0, 0, 0, [], .int 0),
    (15, .ireturn, 1, 58, 0, 0, 0, 0, [], .null)]
def kX11_in_15 : List Item := [(15, .ireturn, 1, 58, 0, 0, 0, 0, [], .null)]
def kX11_in : Code9 := [(0, kX11_in_0), (14, kX11_in_14), (15, kX11_in_15)]
theorem rX11_in_0 (sa : Nat → Nat) (E : Nat → Sem) (MC MS : Nat) (HX : Nat → Nat → Option Nat) (Q : Option Value → Mm → Prop) (X : Nat → Mm → Prop) (L : List Slot) (st : List Value) (M : Mm) (nc ns : Nat) : Run sa E MC MS HX Q X kX11_in 0 L st M nc ns = bk sa E MC MS HX (Run sa E MC MS HX Q X kX11_in) Q X kX11_in_0 L st M nc ns := Run_eq sa E MC MS HX Q X _ _ _ _ _ _ _
theorem rX11_in_14 (sa : Nat → Nat) (E : Nat → Sem) (MC MS : Nat) (HX : Nat → Nat → Option Nat) (Q : Option Value → Mm → Prop) (X : Nat → Mm → Prop) (L : List Slot) (st : List Value) (M : Mm) (nc ns : Nat) : Run sa E MC MS HX Q X kX11_in 14 L st M nc ns = bk sa E MC MS HX (Run sa E MC MS HX Q X kX11_in) Q X kX11_in_14 L st M nc ns := Run_eq sa E MC MS HX Q X _ _ _ _ _ _ _
theorem rX11_in_15 (sa : Nat → Nat) (E : Nat → Sem) (MC MS : Nat) (HX : Nat → Nat → Option Nat) (Q : Option Value → Mm → Prop) (X : Nat → Mm → Prop) (L : List Slot) (st : List Value) (M : Mm) (nc ns : Nat) : Run sa E MC MS HX Q X kX11_in 15 L st M nc ns = bk sa E MC MS HX (Run sa E MC MS HX Q X kX11_in) Q X kX11_in_15 L st M nc ns := Run_eq sa E MC MS HX Q X _ _ _ _ _ _ _
def kX11_inflow_0 : List Item := [(0, .aload_n 0, 1, 3, 0, 0, 0, 0, [], .null),
    (1, .iconst 0, 1, 0, 0, 0, 0, 0, [], .int 0),
    (2, .putfield 42, 3, 27, 11, 0, 0, 0, [], .null),
    (5, .aload_n 0, 1, 3, 0, 0, 0, 0, [], .null),
    (6, .iload_n 1, 1, 1, 1, 0, 0, 0, [], .null),
    (7, .iconst 0, 1, 0, 0, 0, 0, 0, [], .int 0),
    (8, .ldc 204, 2, 0, 0, 0, 0, 0, [], .int 100000),
    (10, .invokestatic 64, 3, 48, 139, 3, 0, 0, [], .null),
    (13, .ifCond .ne 7, 3, 20, 20, 1, 0, 0, [], .null),
    (16, .iconst 1, 1, 0, 0, 0, 0, 0, [], .int 1),
    (17, .goto 4, 3, 22, 21, 0, 0, 0, [], .null)]
def kX11_inflow_20 : List Item := [(20, .iconst 0, 1, 0, 0, 0, 0, 0, [], .int 0),
    (21, .iconst 1, 1, 0, 0, 0, 0, 0, [], .int 1),
    (22, .invokevirtual 169, 3, 48, 129, 3, 0, 0, [11], .null),
    (25, .ifCond .eq 7, 3, 20, 32, 0, 0, 0, [], .null),
    (28, .iconst 0, 1, 0, 0, 0, 0, 0, [], .int 0),
    (29, .goto 12, 3, 22, 41, 0, 0, 0, [], .null)]
def kX11_inflow_21 : List Item := [(21, .iconst 1, 1, 0, 0, 0, 0, 0, [], .int 1),
    (22, .invokevirtual 169, 3, 48, 129, 3, 0, 0, [11], .null),
    (25, .ifCond .eq 7, 3, 20, 32, 0, 0, 0, [], .null),
    (28, .iconst 0, 1, 0, 0, 0, 0, 0, [], .int 0),
    (29, .goto 12, 3, 22, 41, 0, 0, 0, [], .null)]
def kX11_inflow_32 : List Item := [(32, .aload_n 0, 1, 3, 0, 0, 0, 0, [], .null),
    (33, .aload_n 0, 1, 3, 0, 0, 0, 0, [], .null),
    (34, .getfield 17, 3, 26, 11, 8, 0, 0, [], .null),
    (37, .iload_n 1, 1, 1, 1, 0, 0, 0, [], .null),
    (38, .invokevirtual 205, 3, 48, 141, 3, 0, 0, [11], .null),
    (41, .ireturn, 1, 56, 0, 0, 0, 0, [], .null)]
def kX11_inflow_41 : List Item := [(41, .ireturn, 1, 56, 0, 0, 0, 0, [], .null)]
def kX11_inflow : Code9 := [(0, kX11_inflow_0), (20, kX11_inflow_20), (21, kX11_inflow_21), (32, kX11_inflow_32), (41, kX11_inflow_41)]
theorem rX11_inflow_0 (sa : Nat → Nat) (E : Nat → Sem) (MC MS : Nat) (HX : Nat → Nat → Option Nat) (Q : Option Value → Mm → Prop) (X : Nat → Mm → Prop) (L : List Slot) (st : List Value) (M : Mm) (nc ns : Nat) : Run sa E MC MS HX Q X kX11_inflow 0 L st M nc ns = bk sa E MC MS HX (Run sa E MC MS HX Q X kX11_inflow) Q X kX11_inflow_0 L st M nc ns := Run_eq sa E MC MS HX Q X _ _ _ _ _ _ _
theorem rX11_inflow_20 (sa : Nat → Nat) (E : Nat → Sem) (MC MS : Nat) (HX : Nat → Nat → Option Nat) (Q : Option Value → Mm → Prop) (X : Nat → Mm → Prop) (L : List Slot) (st : List Value) (M : Mm) (nc ns : Nat) : Run sa E MC MS HX Q X kX11_inflow 20 L st M nc ns = bk sa E MC MS HX (Run sa E MC MS HX Q X kX11_inflow) Q X kX11_inflow_20 L st M nc ns := Run_eq sa E MC MS HX Q X _ _ _ _ _ _ _
theorem rX11_inflow_21 (sa : Nat → Nat) (E : Nat → Sem) (MC MS : Nat) (HX : Nat → Nat → Option Nat) (Q : Option Value → Mm → Prop) (X : Nat → Mm → Prop) (L : List Slot) (st : List Value) (M : Mm) (nc ns : Nat) : Run sa E MC MS HX Q X kX11_inflow 21 L st M nc ns = bk sa E MC MS HX (Run sa E MC MS HX Q X kX11_inflow) Q X kX11_inflow_21 L st M nc ns := Run_eq sa E MC MS HX Q X _ _ _ _ _ _ _
theorem rX11_inflow_32 (sa : Nat → Nat) (E : Nat → Sem) (MC MS : Nat) (HX : Nat → Nat → Option Nat) (Q : Option Value → Mm → Prop) (X : Nat → Mm → Prop) (L : List Slot) (st : List Value) (M : Mm) (nc ns : Nat) : Run sa E MC MS HX Q X kX11_inflow 32 L st M nc ns = bk sa E MC MS HX (Run sa E MC MS HX Q X kX11_inflow) Q X kX11_inflow_32 L st M nc ns := Run_eq sa E MC MS HX Q X _ _ _ _ _ _ _
theorem rX11_inflow_41 (sa : Nat → Nat) (E : Nat → Sem) (MC MS : Nat) (HX : Nat → Nat → Option Nat) (Q : Option Value → Mm → Prop) (X : Nat → Mm → Prop) (L : List Slot) (st : List Value) (M : Mm) (nc ns : Nat) : Run sa E MC MS HX Q X kX11_inflow 41 L st M nc ns = bk sa E MC MS HX (Run sa E MC MS HX Q X kX11_inflow) Q X kX11_inflow_41 L st M nc ns := Run_eq sa E MC MS HX Q X _ _ _ _ _ _ _
def kX11_inflowOf_0 : List Item := [(0, .aload_n 1, 1, 3, 1, 0, 0, 0, [], .null),
    (1, .bipush 6, 2, 0, 0, 0, 0, 0, [], .int 6),
    (3, .iaload, 1, 31, 0, 0, 0, 0, [], .null),
    (4, .ifCond .ne 6, 3, 20, 10, 1, 0, 0, [], .null),
    (7, .bipush 100, 2, 0, 0, 0, 0, 0, [], .int 100),
    (9, .ireturn, 1, 56, 0, 0, 0, 0, [], .null)]
def kX11_inflowOf_10 : List Item := [(10, .iconst 0, 1, 0, 0, 0, 0, 0, [], .int 0),
    (11, .istore_n 3, 1, 4, 3, 0, 0, 0, [], .null),
    (12, .aload_n 1, 1, 3, 1, 0, 0, 0, [], .null),
    (13, .iload_n 2, 1, 1, 2, 0, 0, 0, [], .null),
    (14, .invokestatic 195, 3, 48, 180, 2, 0, 0, [], .null),
    (17, .istore 4, 2, 4, 4, 0, 0, 0, [], .null),
    (19, .iconst 0, 1, 0, 0, 0, 0, 0, [], .int 0),
    (20, .istore 5, 2, 4, 5, 0, 0, 0, [], .null),
    (22, .nop, 0, 60, 22, 0, 0, 0, [], .null)]
def kX11_inflowOf_22 : List Item := [(22, .iload 5, 2, 1, 5, 0, 0, 0, [], .null),
    (24, .aload_n 1, 1, 3, 1, 0, 0, 0, [], .null),
    (25, .bipush 7, 2, 0, 0, 0, 0, 0, [], .int 7),
    (27, .iaload, 1, 31, 0, 0, 0, 0, [], .null),
    (28, .if_icmp .ge 118, 3, 21, 146, 3, 0, 0, [], .null),
    (31, .aload_n 1, 1, 3, 1, 0, 0, 0, [], .null),
    (32, .sipush 393, 3, 0, 0, 0, 0, 0, [], .int 393),
    (35, .iload 5, 2, 1, 5, 0, 0, 0, [], .null),
    (37, .iadd, 1, 8, 0, 0, 0, 0, [], .null),
    (38, .iaload, 1, 31, 0, 0, 0, 0, [], .null),
    (39, .istore 6, 2, 4, 6, 0, 0, 0, [], .null),
    (41, .iload 6, 2, 1, 6, 0, 0, 0, [], .null),
    (43, .iconst 1, 1, 0, 0, 0, 0, 0, [], .int 1),
    (44, .if_icmp .gt 66, 3, 21, 110, 4, 0, 0, [], .null),
    (47, .iinc 5 1, 3, 7, 5, 0, 0, 0, [], .int 1),
    (50, .aload_n 1, 1, 3, 1, 0, 0, 0, [], .null),
    (51, .sipush 393, 3, 0, 0, 0, 0, 0, [], .int 393),
    (54, .iload 5, 2, 1, 5, 0, 0, 0, [], .null),
    (56, .iadd, 1, 8, 0, 0, 0, 0, [], .null),
    (57, .iaload, 1, 31, 0, 0, 0, 0, [], .null),
    (58, .istore 7, 2, 4, 7, 0, 0, 0, [], .null),
    (60, .aload_n 0, 1, 3, 0, 0, 0, 0, [], .null),
    (61, .getfield 31, 3, 26, 11, 16, 0, 0, [], .null),
    (64, .iload_n 3, 1, 1, 3, 0, 0, 0, [], .null),
    (65, .iload 6, 2, 1, 6, 0, 0, 0, [], .null),
    (67, .ifCond .ne 9, 3, 20, 76, 1, 0, 0, [], .null),
    (70, .iload 7, 2, 1, 7, 0, 0, 0, [], .null),
    (72, .i2l, 1, 12, 0, 0, 0, 0, [], .null),
    (73, .goto 30, 3, 22, 103, 0, 0, 0, [], .null)]
def kX11_inflowOf_76 : List Item := [(76, .iload 7, 2, 1, 7, 0, 0, 0, [], .null),
    (78, .ifCond .ne 8, 3, 20, 86, 1, 0, 0, [], .null),
    (81, .iload_n 2, 1, 1, 2, 0, 0, 0, [], .null),
    (82, .i2l, 1, 12, 0, 0, 0, 0, [], .null),
    (83, .goto 20, 3, 22, 103, 0, 0, 0, [], .null)]
def kX11_inflowOf_86 : List Item := [(86, .iload 7, 2, 1, 7, 0, 0, 0, [], .null),
    (88, .iconst 1, 1, 0, 0, 0, 0, 0, [], .int 1),
    (89, .if_icmp .ne 11, 3, 21, 100, 1, 0, 0, [], .null),
    (92, .iload_n 2, 1, 1, 2, 0, 0, 0, [], .null),
    (93, .bipush 24, 2, 0, 0, 0, 0, 0, [], .int 24),
    (95, .idiv, 1, 9, 0, 0, 0, 0, [], .null),
    (96, .i2l, 1, 12, 0, 0, 0, 0, [], .null),
    (97, .goto 6, 3, 22, 103, 0, 0, 0, [], .null)]
def kX11_inflowOf_100 : List Item := [(100, .iload 4, 2, 1, 4, 0, 0, 0, [], .null),
    (102, .i2l, 1, 12, 0, 0, 0, 0, [], .null),
    (103, .lastore, 1, 36, 0, 0, 0, 0, [], .null),
    (104, .iinc 3 1, 3, 7, 3, 0, 0, 0, [], .int 1),
    (107, .goto 33, 3, 22, 140, 0, 0, 0, [], .null)]
def kX11_inflowOf_103 : List Item := [(103, .lastore, 1, 36, 0, 0, 0, 0, [], .null),
    (104, .iinc 3 1, 3, 7, 3, 0, 0, 0, [], .int 1),
    (107, .goto 33, 3, 22, 140, 0, 0, 0, [], .null)]
def kX11_inflowOf_110 : List Item := [(110, .iinc 3 (-1), 3, 7, 3, 0, 0, 0, [], .int (-1)),
    (113, .aload_n 0, 1, 3, 0, 0, 0, 0, [], .null),
    (114, .getfield 31, 3, 26, 11, 16, 0, 0, [], .null),
    (117, .iload_n 3, 1, 1, 3, 0, 0, 0, [], .null),
    (118, .iconst 1, 1, 0, 0, 0, 0, 0, [], .int 1),
    (119, .isub, 1, 8, 0, 1, 0, 0, [], .null),
    (120, .iload 6, 2, 1, 6, 0, 0, 0, [], .null),
    (122, .aload_n 0, 1, 3, 0, 0, 0, 0, [], .null),
    (123, .getfield 31, 3, 26, 11, 16, 0, 0, [], .null),
    (126, .iload_n 3, 1, 1, 3, 0, 0, 0, [], .null),
    (127, .iconst 1, 1, 0, 0, 0, 0, 0, [], .int 1),
    (128, .isub, 1, 8, 0, 1, 0, 0, [], .null),
    (129, .laload, 1, 32, 0, 0, 0, 0, [], .null),
    (130, .aload_n 0, 1, 3, 0, 0, 0, 0, [], .null),
    (131, .getfield 31, 3, 26, 11, 16, 0, 0, [], .null),
    (134, .iload_n 3, 1, 1, 3, 0, 0, 0, [], .null),
    (135, .laload, 1, 32, 0, 0, 0, 0, [], .null),
    (136, .invokestatic 198, 3, 48, 157, 3, 0, 0, [], .null),
    (139, .lastore, 1, 36, 0, 0, 0, 0, [], .null),
    (140, .iinc 5 1, 3, 7, 5, 0, 0, 0, [], .int 1),
    (143, .goto (-121), 3, 22, 22, 0, 0, 0, [], .null)]
def kX11_inflowOf_140 : List Item := [(140, .iinc 5 1, 3, 7, 5, 0, 0, 0, [], .int 1),
    (143, .goto (-121), 3, 22, 22, 0, 0, 0, [], .null)]
def kX11_inflowOf_146 : List Item := [(146, .aload_n 0, 1, 3, 0, 0, 0, 0, [], .null),
    (147, .getfield 31, 3, 26, 11, 16, 0, 0, [], .null),
    (150, .iconst 0, 1, 0, 0, 0, 0, 0, [], .int 0),
    (151, .laload, 1, 32, 0, 0, 0, 0, [], .null),
    (152, .lconst 0, 1, 0, 0, 0, 0, 0, [], .long 0),
    (153, .lcmp, 1, 15, 0, 0, 0, 0, [], .null),
    (154, .ifCond .ge 7, 3, 20, 161, 3, 0, 0, [], .null),
    (157, .iconst 0, 1, 0, 0, 0, 0, 0, [], .int 0),
    (158, .goto 29, 3, 22, 187, 0, 0, 0, [], .null)]
def kX11_inflowOf_161 : List Item := [(161, .aload_n 0, 1, 3, 0, 0, 0, 0, [], .null),
    (162, .getfield 31, 3, 26, 11, 16, 0, 0, [], .null),
    (165, .iconst 0, 1, 0, 0, 0, 0, 0, [], .int 0),
    (166, .laload, 1, 32, 0, 0, 0, 0, [], .null),
    (167, .ldc2_w 202, 3, 0, 0, 0, 0, 0, [], .long 9999),
    (170, .lcmp, 1, 15, 0, 0, 0, 0, [], .null),
    (171, .ifCond .le 9, 3, 20, 180, 5, 0, 0, [], .null),
    (174, .sipush 9999, 3, 0, 0, 0, 0, 0, [], .int 9999),
    (177, .goto 10, 3, 22, 187, 0, 0, 0, [], .null)]
def kX11_inflowOf_180 : List Item := [(180, .aload_n 0, 1, 3, 0, 0, 0, 0, [], .null),
    (181, .getfield 31, 3, 26, 11, 16, 0, 0, [], .null),
    (184, .iconst 0, 1, 0, 0, 0, 0, 0, [], .int 0),
    (185, .laload, 1, 32, 0, 0, 0, 0, [], .null),
    (186, .l2i, 1, 13, 0, 0, 0, 0, [], .null),
    (187, .ireturn, 1, 56, 0, 0, 0, 0, [], .null)]
def kX11_inflowOf_187 : List Item := [(187, .ireturn, 1, 56, 0, 0, 0, 0, [], .null)]
def kX11_inflowOf : Code9 := [(0, kX11_inflowOf_0), (10, kX11_inflowOf_10), (22, kX11_inflowOf_22), (76, kX11_inflowOf_76), (86, kX11_inflowOf_86), (100, kX11_inflowOf_100), (103, kX11_inflowOf_103), (110, kX11_inflowOf_110), (140, kX11_inflowOf_140), (146, kX11_inflowOf_146), (161, kX11_inflowOf_161), (180, kX11_inflowOf_180), (187, kX11_inflowOf_187)]
theorem rX11_inflowOf_0 (sa : Nat → Nat) (E : Nat → Sem) (MC MS : Nat) (HX : Nat → Nat → Option Nat) (Q : Option Value → Mm → Prop) (X : Nat → Mm → Prop) (L : List Slot) (st : List Value) (M : Mm) (nc ns : Nat) : Run sa E MC MS HX Q X kX11_inflowOf 0 L st M nc ns = bk sa E MC MS HX (Run sa E MC MS HX Q X kX11_inflowOf) Q X kX11_inflowOf_0 L st M nc ns := Run_eq sa E MC MS HX Q X _ _ _ _ _ _ _
theorem rX11_inflowOf_10 (sa : Nat → Nat) (E : Nat → Sem) (MC MS : Nat) (HX : Nat → Nat → Option Nat) (Q : Option Value → Mm → Prop) (X : Nat → Mm → Prop) (L : List Slot) (st : List Value) (M : Mm) (nc ns : Nat) : Run sa E MC MS HX Q X kX11_inflowOf 10 L st M nc ns = bk sa E MC MS HX (Run sa E MC MS HX Q X kX11_inflowOf) Q X kX11_inflowOf_10 L st M nc ns := Run_eq sa E MC MS HX Q X _ _ _ _ _ _ _
theorem rX11_inflowOf_22 (sa : Nat → Nat) (E : Nat → Sem) (MC MS : Nat) (HX : Nat → Nat → Option Nat) (Q : Option Value → Mm → Prop) (X : Nat → Mm → Prop) (L : List Slot) (st : List Value) (M : Mm) (nc ns : Nat) : Run sa E MC MS HX Q X kX11_inflowOf 22 L st M nc ns = bk sa E MC MS HX (Run sa E MC MS HX Q X kX11_inflowOf) Q X kX11_inflowOf_22 L st M nc ns := Run_eq sa E MC MS HX Q X _ _ _ _ _ _ _
theorem rX11_inflowOf_76 (sa : Nat → Nat) (E : Nat → Sem) (MC MS : Nat) (HX : Nat → Nat → Option Nat) (Q : Option Value → Mm → Prop) (X : Nat → Mm → Prop) (L : List Slot) (st : List Value) (M : Mm) (nc ns : Nat) : Run sa E MC MS HX Q X kX11_inflowOf 76 L st M nc ns = bk sa E MC MS HX (Run sa E MC MS HX Q X kX11_inflowOf) Q X kX11_inflowOf_76 L st M nc ns := Run_eq sa E MC MS HX Q X _ _ _ _ _ _ _
theorem rX11_inflowOf_86 (sa : Nat → Nat) (E : Nat → Sem) (MC MS : Nat) (HX : Nat → Nat → Option Nat) (Q : Option Value → Mm → Prop) (X : Nat → Mm → Prop) (L : List Slot) (st : List Value) (M : Mm) (nc ns : Nat) : Run sa E MC MS HX Q X kX11_inflowOf 86 L st M nc ns = bk sa E MC MS HX (Run sa E MC MS HX Q X kX11_inflowOf) Q X kX11_inflowOf_86 L st M nc ns := Run_eq sa E MC MS HX Q X _ _ _ _ _ _ _
theorem rX11_inflowOf_100 (sa : Nat → Nat) (E : Nat → Sem) (MC MS : Nat) (HX : Nat → Nat → Option Nat) (Q : Option Value → Mm → Prop) (X : Nat → Mm → Prop) (L : List Slot) (st : List Value) (M : Mm) (nc ns : Nat) : Run sa E MC MS HX Q X kX11_inflowOf 100 L st M nc ns = bk sa E MC MS HX (Run sa E MC MS HX Q X kX11_inflowOf) Q X kX11_inflowOf_100 L st M nc ns := Run_eq sa E MC MS HX Q X _ _ _ _ _ _ _
theorem rX11_inflowOf_103 (sa : Nat → Nat) (E : Nat → Sem) (MC MS : Nat) (HX : Nat → Nat → Option Nat) (Q : Option Value → Mm → Prop) (X : Nat → Mm → Prop) (L : List Slot) (st : List Value) (M : Mm) (nc ns : Nat) : Run sa E MC MS HX Q X kX11_inflowOf 103 L st M nc ns = bk sa E MC MS HX (Run sa E MC MS HX Q X kX11_inflowOf) Q X kX11_inflowOf_103 L st M nc ns := Run_eq sa E MC MS HX Q X _ _ _ _ _ _ _
theorem rX11_inflowOf_110 (sa : Nat → Nat) (E : Nat → Sem) (MC MS : Nat) (HX : Nat → Nat → Option Nat) (Q : Option Value → Mm → Prop) (X : Nat → Mm → Prop) (L : List Slot) (st : List Value) (M : Mm) (nc ns : Nat) : Run sa E MC MS HX Q X kX11_inflowOf 110 L st M nc ns = bk sa E MC MS HX (Run sa E MC MS HX Q X kX11_inflowOf) Q X kX11_inflowOf_110 L st M nc ns := Run_eq sa E MC MS HX Q X _ _ _ _ _ _ _
theorem rX11_inflowOf_140 (sa : Nat → Nat) (E : Nat → Sem) (MC MS : Nat) (HX : Nat → Nat → Option Nat) (Q : Option Value → Mm → Prop) (X : Nat → Mm → Prop) (L : List Slot) (st : List Value) (M : Mm) (nc ns : Nat) : Run sa E MC MS HX Q X kX11_inflowOf 140 L st M nc ns = bk sa E MC MS HX (Run sa E MC MS HX Q X kX11_inflowOf) Q X kX11_inflowOf_140 L st M nc ns := Run_eq sa E MC MS HX Q X _ _ _ _ _ _ _
theorem rX11_inflowOf_146 (sa : Nat → Nat) (E : Nat → Sem) (MC MS : Nat) (HX : Nat → Nat → Option Nat) (Q : Option Value → Mm → Prop) (X : Nat → Mm → Prop) (L : List Slot) (st : List Value) (M : Mm) (nc ns : Nat) : Run sa E MC MS HX Q X kX11_inflowOf 146 L st M nc ns = bk sa E MC MS HX (Run sa E MC MS HX Q X kX11_inflowOf) Q X kX11_inflowOf_146 L st M nc ns := Run_eq sa E MC MS HX Q X _ _ _ _ _ _ _
theorem rX11_inflowOf_161 (sa : Nat → Nat) (E : Nat → Sem) (MC MS : Nat) (HX : Nat → Nat → Option Nat) (Q : Option Value → Mm → Prop) (X : Nat → Mm → Prop) (L : List Slot) (st : List Value) (M : Mm) (nc ns : Nat) : Run sa E MC MS HX Q X kX11_inflowOf 161 L st M nc ns = bk sa E MC MS HX (Run sa E MC MS HX Q X kX11_inflowOf) Q X kX11_inflowOf_161 L st M nc ns := Run_eq sa E MC MS HX Q X _ _ _ _ _ _ _
theorem rX11_inflowOf_180 (sa : Nat → Nat) (E : Nat → Sem) (MC MS : Nat) (HX : Nat → Nat → Option Nat) (Q : Option Value → Mm → Prop) (X : Nat → Mm → Prop) (L : List Slot) (st : List Value) (M : Mm) (nc ns : Nat) : Run sa E MC MS HX Q X kX11_inflowOf 180 L st M nc ns = bk sa E MC MS HX (Run sa E MC MS HX Q X kX11_inflowOf) Q X kX11_inflowOf_180 L st M nc ns := Run_eq sa E MC MS HX Q X _ _ _ _ _ _ _
theorem rX11_inflowOf_187 (sa : Nat → Nat) (E : Nat → Sem) (MC MS : Nat) (HX : Nat → Nat → Option Nat) (Q : Option Value → Mm → Prop) (X : Nat → Mm → Prop) (L : List Slot) (st : List Value) (M : Mm) (nc ns : Nat) : Run sa E MC MS HX Q X kX11_inflowOf 187 L st M nc ns = bk sa E MC MS HX (Run sa E MC MS HX Q X kX11_inflowOf) Q X kX11_inflowOf_187 L st M nc ns := Run_eq sa E MC MS HX Q X _ _ _ _ _ _ _
def kX11_init_0 : List Item := [(0, .aload_n 0, 1, 3, 0, 0, 0, 0, [], .null),
    (1, .invokespecial 3, 3, 47, 0, 0, 0, 0, [], .null),
    (4, .aload_n 0, 1, 3, 0, 0, 0, 0, [], .null),
    (5, .sipush 900, 3, 0, 0, 0, 0, 0, [], .int 900),
    (8, .newarray .int, 2, 44, 0, 0, 0, 0, [], .null),
    (10, .putfield 9, 3, 29, 11, 1, 0, 0, [], .null),
    (13, .aload_n 0, 1, 3, 0, 0, 0, 0, [], .null),
    (14, .iconst (-1), 1, 0, 0, 0, 0, 0, [], .int (-1)),
    (15, .putfield 13, 3, 27, 11, 7, 0, 0, [], .null),
    (18, .aload_n 0, 1, 3, 0, 0, 0, 0, [], .null),
    (19, .sipush 1793, 3, 0, 0, 0, 0, 0, [], .int 1793),
    (22, .newarray .int, 2, 44, 0, 0, 0, 0, [], .null),
    (24, .putfield 17, 3, 29, 11, 8, 0, 0, [], .null),
    (27, .aload_n 0, 1, 3, 0, 0, 0, 0, [], .null),
    (28, .sipush 1793, 3, 0, 0, 0, 0, 0, [], .int 1793),
    (31, .newarray .int, 2, 44, 0, 0, 0, 0, [], .null),
    (33, .putfield 20, 3, 29, 11, 9, 0, 0, [], .null),
    (36, .aload_n 0, 1, 3, 0, 0, 0, 0, [], .null),
    (37, .sipush 1793, 3, 0, 0, 0, 0, 0, [], .int 1793),
    (40, .newarray .int, 2, 44, 0, 0, 0, 0, [], .null),
    (42, .putfield 23, 3, 29, 11, 10, 0, 0, [], .null),
    (45, .aload_n 0, 1, 3, 0, 0, 0, 0, [], .null),
    (46, .bipush 8, 2, 0, 0, 0, 0, 0, [], .int 8),
    (48, .sipush 1793, 3, 0, 0, 0, 0, 0, [], .int 1793),
    (51, .multianewarray 26 2, 4, 46, 0, 0, 0, 0, [], .null),
    (55, .putfield 28, 3, 29, 11, 11, 0, 0, [], .null),
    (58, .aload_n 0, 1, 3, 0, 0, 0, 0, [], .null),
    (59, .sipush 1400, 3, 0, 0, 0, 0, 0, [], .int 1400),
    (62, .newarray .long, 2, 44, 3, 0, 0, 0, [], .null),
    (64, .putfield 31, 3, 29, 11, 16, 0, 0, [], .null),
    (67, .aload_n 0, 1, 3, 0, 0, 0, 0, [], .null),
    (68, .bipush 12, 2, 0, 0, 0, 0, 0, [], .int 12),
    (70, .newarray .boolean, 2, 44, 1, 0, 0, 0, [], .null),
    (72, .putfield 35, 3, 29, 11, 17, 0, 0, [], .null),
    (75, .aload_n 0, 1, 3, 0, 0, 0, 0, [], .null),
    (76, .bipush 16, 2, 0, 0, 0, 0, 0, [], .int 16),
    (78, .newarray .boolean, 2, 44, 1, 0, 0, 0, [], .null),
    (80, .putfield 39, 3, 29, 11, 18, 0, 0, [], .null),
    (83, .return_, 1, 55, 0, 0, 0, 0, [], .null)]
def kX11_init : Code9 := [(0, kX11_init_0)]
theorem rX11_init_0 (sa : Nat → Nat) (E : Nat → Sem) (MC MS : Nat) (HX : Nat → Nat → Option Nat) (Q : Option Value → Mm → Prop) (X : Nat → Mm → Prop) (L : List Slot) (st : List Value) (M : Mm) (nc ns : Nat) : Run sa E MC MS HX Q X kX11_init 0 L st M nc ns = bk sa E MC MS HX (Run sa E MC MS HX Q X kX11_init) Q X kX11_init_0 L st M nc ns := Run_eq sa E MC MS HX Q X _ _ _ _ _ _ _
def kX11_irrigate_0 : List Item := [(0, .iload_n 3, 1, 1, 3, 0, 0, 0, [], .null),
    (1, .istore 5, 2, 4, 5, 0, 0, 0, [], .null),
    (3, .iconst 0, 1, 0, 0, 0, 0, 0, [], .int 0),
    (4, .istore 6, 2, 4, 6, 0, 0, 0, [], .null),
    (6, .nop, 0, 60, 6, 0, 0, 0, [], .null)]
def kX11_irrigate_6 : List Item := [(6, .iload 6, 2, 1, 6, 0, 0, 0, [], .null),
    (8, .aload_n 1, 1, 3, 1, 0, 0, 0, [], .null),
    (9, .iconst 1, 1, 0, 0, 0, 0, 0, [], .int 1),
    (10, .iaload, 1, 31, 0, 0, 0, 0, [], .null),
    (11, .if_icmp .ge 104, 3, 21, 115, 3, 0, 0, [], .null),
    (14, .iload 6, 2, 1, 6, 0, 0, 0, [], .null),
    (16, .invokestatic 140, 3, 48, 131, 1, 0, 0, [], .null),
    (19, .istore 7, 2, 4, 7, 0, 0, 0, [], .null),
    (21, .aload_n 1, 1, 3, 1, 0, 0, 0, [], .null),
    (22, .iload 7, 2, 1, 7, 0, 0, 0, [], .null),
    (24, .iaload, 1, 31, 0, 0, 0, 0, [], .null),
    (25, .iload_n 2, 1, 1, 2, 0, 0, 0, [], .null),
    (26, .if_icmp .ne 83, 3, 21, 109, 1, 0, 0, [], .null),
    (29, .aload_n 0, 1, 3, 0, 0, 0, 0, [], .null),
    (30, .getfield 35, 3, 26, 11, 17, 0, 0, [], .null),
    (33, .iload 6, 2, 1, 6, 0, 0, 0, [], .null),
    (35, .baload, 1, 31, 1, 0, 0, 0, [], .null),
    (36, .ifCond .ne 6, 3, 20, 42, 1, 0, 0, [], .null),
    (39, .goto 70, 3, 22, 109, 0, 0, 0, [], .null)]
def kX11_irrigate_42 : List Item := [(42, .aload_n 1, 1, 3, 1, 0, 0, 0, [], .null),
    (43, .iload 7, 2, 1, 7, 0, 0, 0, [], .null),
    (45, .iconst 2, 1, 0, 0, 0, 0, 0, [], .int 2),
    (46, .iadd, 1, 8, 0, 0, 0, 0, [], .null),
    (47, .iaload, 1, 31, 0, 0, 0, 0, [], .null),
    (48, .iload 5, 2, 1, 5, 0, 0, 0, [], .null),
    (50, .invokestatic 97, 3, 48, 150, 2, 0, 0, [], .null),
    (53, .istore 8, 2, 4, 8, 0, 0, 0, [], .null),
    (55, .iload 5, 2, 1, 5, 0, 0, 0, [], .null),
    (57, .iload 8, 2, 1, 8, 0, 0, 0, [], .null),
    (59, .isub, 1, 8, 0, 1, 0, 0, [], .null),
    (60, .istore 5, 2, 4, 5, 0, 0, 0, [], .null),
    (62, .aload_n 1, 1, 3, 1, 0, 0, 0, [], .null),
    (63, .iload 7, 2, 1, 7, 0, 0, 0, [], .null),
    (65, .bipush 7, 2, 0, 0, 0, 0, 0, [], .int 7),
    (67, .iadd, 1, 8, 0, 0, 0, 0, [], .null),
    (68, .dup2, 1, 17, 0, 0, 0, 0, [], .null),
    (69, .iaload, 1, 31, 0, 0, 0, 0, [], .null),
    (70, .iload 8, 2, 1, 8, 0, 0, 0, [], .null),
    (72, .iadd, 1, 8, 0, 0, 0, 0, [], .null),
    (73, .iastore, 1, 35, 0, 0, 0, 0, [], .null),
    (74, .aload_n 1, 1, 3, 1, 0, 0, 0, [], .null),
    (75, .iload 7, 2, 1, 7, 0, 0, 0, [], .null),
    (77, .bipush 8, 2, 0, 0, 0, 0, 0, [], .int 8),
    (79, .iadd, 1, 8, 0, 0, 0, 0, [], .null),
    (80, .dup2, 1, 17, 0, 0, 0, 0, [], .null),
    (81, .iaload, 1, 31, 0, 0, 0, 0, [], .null),
    (82, .iload 8, 2, 1, 8, 0, 0, 0, [], .null),
    (84, .iadd, 1, 8, 0, 0, 0, 0, [], .null),
    (85, .iastore, 1, 35, 0, 0, 0, 0, [], .null),
    (86, .aload_n 1, 1, 3, 1, 0, 0, 0, [], .null),
    (87, .iload 7, 2, 1, 7, 0, 0, 0, [], .null),
    (89, .iconst 1, 1, 0, 0, 0, 0, 0, [], .int 1),
    (90, .iadd, 1, 8, 0, 0, 0, 0, [], .null),
    (91, .iaload, 1, 31, 0, 0, 0, 0, [], .null),
    (92, .iload 4, 2, 1, 4, 0, 0, 0, [], .null),
    (94, .if_icmp .eq 15, 3, 21, 109, 0, 0, 0, [], .null),
    (97, .aload_n 1, 1, 3, 1, 0, 0, 0, [], .null),
    (98, .iload 7, 2, 1, 7, 0, 0, 0, [], .null),
    (100, .bipush 9, 2, 0, 0, 0, 0, 0, [], .int 9),
    (102, .iadd, 1, 8, 0, 0, 0, 0, [], .null),
    (103, .dup2, 1, 17, 0, 0, 0, 0, [], .null),
    (104, .iaload, 1, 31, 0, 0, 0, 0, [], .null),
    (105, .iload 8, 2, 1, 8, 0, 0, 0, [], .null),
    (107, .iadd, 1, 8, 0, 0, 0, 0, [], .null),
    (108, .iastore, 1, 35, 0, 0, 0, 0, [], .null),
    (109, .iinc 6 1, 3, 7, 6, 0, 0, 0, [], .int 1),
    (112, .goto (-106), 3, 22, 6, 0, 0, 0, [], .null)]
def kX11_irrigate_109 : List Item := [(109, .iinc 6 1, 3, 7, 6, 0, 0, 0, [], .int 1),
    (112, .goto (-106), 3, 22, 6, 0, 0, 0, [], .null)]
def kX11_irrigate_115 : List Item := [(115, .iload 5, 2, 1, 5, 0, 0, 0, [], .null),
    (117, .ireturn, 1, 56, 0, 0, 0, 0, [], .null)]
def kX11_irrigate : Code9 := [(0, kX11_irrigate_0), (6, kX11_irrigate_6), (42, kX11_irrigate_42), (109, kX11_irrigate_109), (115, kX11_irrigate_115)]
theorem rX11_irrigate_0 (sa : Nat → Nat) (E : Nat → Sem) (MC MS : Nat) (HX : Nat → Nat → Option Nat) (Q : Option Value → Mm → Prop) (X : Nat → Mm → Prop) (L : List Slot) (st : List Value) (M : Mm) (nc ns : Nat) : Run sa E MC MS HX Q X kX11_irrigate 0 L st M nc ns = bk sa E MC MS HX (Run sa E MC MS HX Q X kX11_irrigate) Q X kX11_irrigate_0 L st M nc ns := Run_eq sa E MC MS HX Q X _ _ _ _ _ _ _
theorem rX11_irrigate_6 (sa : Nat → Nat) (E : Nat → Sem) (MC MS : Nat) (HX : Nat → Nat → Option Nat) (Q : Option Value → Mm → Prop) (X : Nat → Mm → Prop) (L : List Slot) (st : List Value) (M : Mm) (nc ns : Nat) : Run sa E MC MS HX Q X kX11_irrigate 6 L st M nc ns = bk sa E MC MS HX (Run sa E MC MS HX Q X kX11_irrigate) Q X kX11_irrigate_6 L st M nc ns := Run_eq sa E MC MS HX Q X _ _ _ _ _ _ _
theorem rX11_irrigate_42 (sa : Nat → Nat) (E : Nat → Sem) (MC MS : Nat) (HX : Nat → Nat → Option Nat) (Q : Option Value → Mm → Prop) (X : Nat → Mm → Prop) (L : List Slot) (st : List Value) (M : Mm) (nc ns : Nat) : Run sa E MC MS HX Q X kX11_irrigate 42 L st M nc ns = bk sa E MC MS HX (Run sa E MC MS HX Q X kX11_irrigate) Q X kX11_irrigate_42 L st M nc ns := Run_eq sa E MC MS HX Q X _ _ _ _ _ _ _
theorem rX11_irrigate_109 (sa : Nat → Nat) (E : Nat → Sem) (MC MS : Nat) (HX : Nat → Nat → Option Nat) (Q : Option Value → Mm → Prop) (X : Nat → Mm → Prop) (L : List Slot) (st : List Value) (M : Mm) (nc ns : Nat) : Run sa E MC MS HX Q X kX11_irrigate 109 L st M nc ns = bk sa E MC MS HX (Run sa E MC MS HX Q X kX11_irrigate) Q X kX11_irrigate_109 L st M nc ns := Run_eq sa E MC MS HX Q X _ _ _ _ _ _ _
theorem rX11_irrigate_115 (sa : Nat → Nat) (E : Nat → Sem) (MC MS : Nat) (HX : Nat → Nat → Option Nat) (Q : Option Value → Mm → Prop) (X : Nat → Mm → Prop) (L : List Slot) (st : List Value) (M : Mm) (nc ns : Nat) : Run sa E MC MS HX Q X kX11_irrigate 115 L st M nc ns = bk sa E MC MS HX (Run sa E MC MS HX Q X kX11_irrigate) Q X kX11_irrigate_115 L st M nc ns := Run_eq sa E MC MS HX Q X _ _ _ _ _ _ _
def kX11_isDigit_0 : List Item := [(0, .iload_n 0, 1, 1, 0, 0, 0, 0, [], .null),
    (1, .bipush 48, 2, 0, 0, 0, 0, 0, [], .int 48),
    (3, .bipush 57, 2, 0, 0, 0, 0, 0, [], .int 57),
    (5, .invokestatic 64, 3, 48, 139, 3, 0, 0, [], .null),
    (8, .ireturn, 1, 58, 0, 0, 0, 0, [], .null)]
def kX11_isDigit : Code9 := [(0, kX11_isDigit_0)]
theorem rX11_isDigit_0 (sa : Nat → Nat) (E : Nat → Sem) (MC MS : Nat) (HX : Nat → Nat → Option Nat) (Q : Option Value → Mm → Prop) (X : Nat → Mm → Prop) (L : List Slot) (st : List Value) (M : Mm) (nc ns : Nat) : Run sa E MC MS HX Q X kX11_isDigit 0 L st M nc ns = bk sa E MC MS HX (Run sa E MC MS HX Q X kX11_isDigit) Q X kX11_isDigit_0 L st M nc ns := Run_eq sa E MC MS HX Q X _ _ _ _ _ _ _
def kX11_isForced_0 : List Item := [(0, .aload_n 0, 1, 3, 0, 0, 0, 0, [], .null),
    (1, .iconst 0, 1, 0, 0, 0, 0, 0, [], .int 0),
    (2, .putfield 42, 3, 27, 11, 0, 0, 0, [], .null),
    (5, .aload_n 0, 1, 3, 0, 0, 0, 0, [], .null),
    (6, .iload_n 1, 1, 1, 1, 0, 0, 0, [], .null),
    (7, .invokevirtual 239, 3, 48, 153, 2, 0, 0, [11], .null),
    (10, .ifCond .ne 23, 3, 20, 33, 1, 0, 0, [], .null),
    (13, .aload_n 0, 1, 3, 0, 0, 0, 0, [], .null),
    (14, .getfield 17, 3, 26, 11, 8, 0, 0, [], .null),
    (17, .iload_n 1, 1, 1, 1, 0, 0, 0, [], .null),
    (18, .invokestatic 140, 3, 48, 131, 1, 0, 0, [], .null),
    (21, .bipush 10, 2, 0, 0, 0, 0, 0, [], .int 10),
    (23, .iadd, 1, 8, 0, 0, 0, 0, [], .null),
    (24, .iaload, 1, 31, 0, 0, 0, 0, [], .null),
    (25, .iconst 1, 1, 0, 0, 0, 0, 0, [], .int 1),
    (26, .if_icmp .ne 7, 3, 21, 33, 1, 0, 0, [], .null),
    (29, .iconst 1, 1, 0, 0, 0, 0, 0, [], .int 1),
    (30, .goto 4, 3, 22, 34, 0, 0, 0, [], .null)]
def kX11_isForced_33 : List Item := [(33, .iconst 0, 1, 0, 0, 0, 0, 0, [], .int 0),
    (34, .ireturn, 1, 58, 0, 0, 0, 0, [], .null)]
def kX11_isForced_34 : List Item := [(34, .ireturn, 1, 58, 0, 0, 0, 0, [], .null)]
def kX11_isForced : Code9 := [(0, kX11_isForced_0), (33, kX11_isForced_33), (34, kX11_isForced_34)]
theorem rX11_isForced_0 (sa : Nat → Nat) (E : Nat → Sem) (MC MS : Nat) (HX : Nat → Nat → Option Nat) (Q : Option Value → Mm → Prop) (X : Nat → Mm → Prop) (L : List Slot) (st : List Value) (M : Mm) (nc ns : Nat) : Run sa E MC MS HX Q X kX11_isForced 0 L st M nc ns = bk sa E MC MS HX (Run sa E MC MS HX Q X kX11_isForced) Q X kX11_isForced_0 L st M nc ns := Run_eq sa E MC MS HX Q X _ _ _ _ _ _ _
theorem rX11_isForced_33 (sa : Nat → Nat) (E : Nat → Sem) (MC MS : Nat) (HX : Nat → Nat → Option Nat) (Q : Option Value → Mm → Prop) (X : Nat → Mm → Prop) (L : List Slot) (st : List Value) (M : Mm) (nc ns : Nat) : Run sa E MC MS HX Q X kX11_isForced 33 L st M nc ns = bk sa E MC MS HX (Run sa E MC MS HX Q X kX11_isForced) Q X kX11_isForced_33 L st M nc ns := Run_eq sa E MC MS HX Q X _ _ _ _ _ _ _
theorem rX11_isForced_34 (sa : Nat → Nat) (E : Nat → Sem) (MC MS : Nat) (HX : Nat → Nat → Option Nat) (Q : Option Value → Mm → Prop) (X : Nat → Mm → Prop) (L : List Slot) (st : List Value) (M : Mm) (nc ns : Nat) : Run sa E MC MS HX Q X kX11_isForced 34 L st M nc ns = bk sa E MC MS HX (Run sa E MC MS HX Q X kX11_isForced) Q X kX11_isForced_34 L st M nc ns := Run_eq sa E MC MS HX Q X _ _ _ _ _ _ _
def kX11_isGood_0 : List Item := [(0, .aload_n 0, 1, 3, 0, 0, 0, 0, [], .null),
    (1, .getfield 58, 3, 24, 11, 5, 0, 0, [], .null),
    (4, .ifCond .ne 7, 3, 20, 11, 1, 0, 0, [], .null),
    (7, .iconst 1, 1, 0, 0, 0, 0, 0, [], .int 1),
    (8, .goto 4, 3, 22, 12, 0, 0, 0, [], .null)]
def kX11_isGood_11 : List Item := [(11, .iconst 0, 1, 0, 0, 0, 0, 0, [], .int 0),
    (12, .ireturn, 1, 58, 0, 0, 0, 0, [], .null)]
def kX11_isGood_12 : List Item := [(12, .ireturn, 1, 58, 0, 0, 0, 0, [], .null)]
def kX11_isGood : Code9 := [(0, kX11_isGood_0), (11, kX11_isGood_11), (12, kX11_isGood_12)]
theorem rX11_isGood_0 (sa : Nat → Nat) (E : Nat → Sem) (MC MS : Nat) (HX : Nat → Nat → Option Nat) (Q : Option Value → Mm → Prop) (X : Nat → Mm → Prop) (L : List Slot) (st : List Value) (M : Mm) (nc ns : Nat) : Run sa E MC MS HX Q X kX11_isGood 0 L st M nc ns = bk sa E MC MS HX (Run sa E MC MS HX Q X kX11_isGood) Q X kX11_isGood_0 L st M nc ns := Run_eq sa E MC MS HX Q X _ _ _ _ _ _ _
theorem rX11_isGood_11 (sa : Nat → Nat) (E : Nat → Sem) (MC MS : Nat) (HX : Nat → Nat → Option Nat) (Q : Option Value → Mm → Prop) (X : Nat → Mm → Prop) (L : List Slot) (st : List Value) (M : Mm) (nc ns : Nat) : Run sa E MC MS HX Q X kX11_isGood 11 L st M nc ns = bk sa E MC MS HX (Run sa E MC MS HX Q X kX11_isGood) Q X kX11_isGood_11 L st M nc ns := Run_eq sa E MC MS HX Q X _ _ _ _ _ _ _
theorem rX11_isGood_12 (sa : Nat → Nat) (E : Nat → Sem) (MC MS : Nat) (HX : Nat → Nat → Option Nat) (Q : Option Value → Mm → Prop) (X : Nat → Mm → Prop) (L : List Slot) (st : List Value) (M : Mm) (nc ns : Nat) : Run sa E MC MS HX Q X kX11_isGood 12 L st M nc ns = bk sa E MC MS HX (Run sa E MC MS HX Q X kX11_isGood) Q X kX11_isGood_12 L st M nc ns := Run_eq sa E MC MS HX Q X _ _ _ _ _ _ _
def kX11_isOpen_0 : List Item := [(0, .aload_n 0, 1, 3, 0, 0, 0, 0, [], .null),
    (1, .iconst 0, 1, 0, 0, 0, 0, 0, [], .int 0),
    (2, .putfield 42, 3, 27, 11, 0, 0, 0, [], .null),
    (5, .aload_n 0, 1, 3, 0, 0, 0, 0, [], .null),
    (6, .iload_n 1, 1, 1, 1, 0, 0, 0, [], .null),
    (7, .invokevirtual 239, 3, 48, 153, 2, 0, 0, [11], .null),
    (10, .ifCond .ne 18, 3, 20, 28, 1, 0, 0, [], .null),
    (13, .aload_n 0, 1, 3, 0, 0, 0, 0, [], .null),
    (14, .getfield 17, 3, 26, 11, 8, 0, 0, [], .null),
    (17, .iload_n 1, 1, 1, 1, 0, 0, 0, [], .null),
    (18, .invokestatic 210, 3, 48, 156, 2, 0, 0, [], .null),
    (21, .ifCond .eq 7, 3, 20, 28, 0, 0, 0, [], .null),
    (24, .iconst 1, 1, 0, 0, 0, 0, 0, [], .int 1),
    (25, .goto 4, 3, 22, 29, 0, 0, 0, [], .null)]
def kX11_isOpen_28 : List Item := [(28, .iconst 0, 1, 0, 0, 0, 0, 0, [], .int 0),
    (29, .ireturn, 1, 58, 0, 0, 0, 0, [], .null)]
def kX11_isOpen_29 : List Item := [(29, .ireturn, 1, 58, 0, 0, 0, 0, [], .null)]
def kX11_isOpen : Code9 := [(0, kX11_isOpen_0), (28, kX11_isOpen_28), (29, kX11_isOpen_29)]
theorem rX11_isOpen_0 (sa : Nat → Nat) (E : Nat → Sem) (MC MS : Nat) (HX : Nat → Nat → Option Nat) (Q : Option Value → Mm → Prop) (X : Nat → Mm → Prop) (L : List Slot) (st : List Value) (M : Mm) (nc ns : Nat) : Run sa E MC MS HX Q X kX11_isOpen 0 L st M nc ns = bk sa E MC MS HX (Run sa E MC MS HX Q X kX11_isOpen) Q X kX11_isOpen_0 L st M nc ns := Run_eq sa E MC MS HX Q X _ _ _ _ _ _ _
theorem rX11_isOpen_28 (sa : Nat → Nat) (E : Nat → Sem) (MC MS : Nat) (HX : Nat → Nat → Option Nat) (Q : Option Value → Mm → Prop) (X : Nat → Mm → Prop) (L : List Slot) (st : List Value) (M : Mm) (nc ns : Nat) : Run sa E MC MS HX Q X kX11_isOpen 28 L st M nc ns = bk sa E MC MS HX (Run sa E MC MS HX Q X kX11_isOpen) Q X kX11_isOpen_28 L st M nc ns := Run_eq sa E MC MS HX Q X _ _ _ _ _ _ _
theorem rX11_isOpen_29 (sa : Nat → Nat) (E : Nat → Sem) (MC MS : Nat) (HX : Nat → Nat → Option Nat) (Q : Option Value → Mm → Prop) (X : Nat → Mm → Prop) (L : List Slot) (st : List Value) (M : Mm) (nc ns : Nat) : Run sa E MC MS HX Q X kX11_isOpen 29 L st M nc ns = bk sa E MC MS HX (Run sa E MC MS HX Q X kX11_isOpen) Q X kX11_isOpen_29 L st M nc ns := Run_eq sa E MC MS HX Q X _ _ _ _ _ _ _
def kX11_limited_0 : List Item := [(0, .lload_n 0, 1, 2, 0, 0, 0, 0, [], .null),
    (1, .ldc2_w 187, 3, 0, 0, 0, 0, 0, [], .long 1000000000),
    (4, .lcmp, 1, 15, 0, 0, 0, 0, [], .null),
    (5, .ifCond .le 9, 3, 20, 14, 5, 0, 0, [], .null),
    (8, .ldc2_w 187, 3, 0, 0, 0, 0, 0, [], .long 1000000000),
    (11, .goto 18, 3, 22, 29, 0, 0, 0, [], .null)]
def kX11_limited_14 : List Item := [(14, .lload_n 0, 1, 2, 0, 0, 0, 0, [], .null),
    (15, .ldc2_w 189, 3, 0, 0, 0, 0, 0, [], .long (-1000000000)),
    (18, .lcmp, 1, 15, 0, 0, 0, 0, [], .null),
    (19, .ifCond .ge 9, 3, 20, 28, 3, 0, 0, [], .null),
    (22, .ldc2_w 189, 3, 0, 0, 0, 0, 0, [], .long (-1000000000)),
    (25, .goto 4, 3, 22, 29, 0, 0, 0, [], .null)]
def kX11_limited_28 : List Item := [(28, .lload_n 0, 1, 2, 0, 0, 0, 0, [], .null),
    (29, .lreturn, 1, 57, 0, 0, 0, 0, [], .null)]
def kX11_limited_29 : List Item := [(29, .lreturn, 1, 57, 0, 0, 0, 0, [], .null)]
def kX11_limited : Code9 := [(0, kX11_limited_0), (14, kX11_limited_14), (28, kX11_limited_28), (29, kX11_limited_29)]
theorem rX11_limited_0 (sa : Nat → Nat) (E : Nat → Sem) (MC MS : Nat) (HX : Nat → Nat → Option Nat) (Q : Option Value → Mm → Prop) (X : Nat → Mm → Prop) (L : List Slot) (st : List Value) (M : Mm) (nc ns : Nat) : Run sa E MC MS HX Q X kX11_limited 0 L st M nc ns = bk sa E MC MS HX (Run sa E MC MS HX Q X kX11_limited) Q X kX11_limited_0 L st M nc ns := Run_eq sa E MC MS HX Q X _ _ _ _ _ _ _
theorem rX11_limited_14 (sa : Nat → Nat) (E : Nat → Sem) (MC MS : Nat) (HX : Nat → Nat → Option Nat) (Q : Option Value → Mm → Prop) (X : Nat → Mm → Prop) (L : List Slot) (st : List Value) (M : Mm) (nc ns : Nat) : Run sa E MC MS HX Q X kX11_limited 14 L st M nc ns = bk sa E MC MS HX (Run sa E MC MS HX Q X kX11_limited) Q X kX11_limited_14 L st M nc ns := Run_eq sa E MC MS HX Q X _ _ _ _ _ _ _
theorem rX11_limited_28 (sa : Nat → Nat) (E : Nat → Sem) (MC MS : Nat) (HX : Nat → Nat → Option Nat) (Q : Option Value → Mm → Prop) (X : Nat → Mm → Prop) (L : List Slot) (st : List Value) (M : Mm) (nc ns : Nat) : Run sa E MC MS HX Q X kX11_limited 28 L st M nc ns = bk sa E MC MS HX (Run sa E MC MS HX Q X kX11_limited) Q X kX11_limited_28 L st M nc ns := Run_eq sa E MC MS HX Q X _ _ _ _ _ _ _
theorem rX11_limited_29 (sa : Nat → Nat) (E : Nat → Sem) (MC MS : Nat) (HX : Nat → Nat → Option Nat) (Q : Option Value → Mm → Prop) (X : Nat → Mm → Prop) (L : List Slot) (st : List Value) (M : Mm) (nc ns : Nat) : Run sa E MC MS HX Q X kX11_limited 29 L st M nc ns = bk sa E MC MS HX (Run sa E MC MS HX Q X kX11_limited) Q X kX11_limited_29 L st M nc ns := Run_eq sa E MC MS HX Q X _ _ _ _ _ _ _
def kX11_load_0 : List Item := [(0, .aload_n 0, 1, 3, 0, 0, 0, 0, [], .null),
    (1, .iconst 0, 1, 0, 0, 0, 0, 0, [], .int 0),
    (2, .putfield 42, 3, 27, 11, 0, 0, 0, [], .null),
    (5, .aload_n 0, 1, 3, 0, 0, 0, 0, [], .null),
    (6, .iload_n 1, 1, 1, 1, 0, 0, 0, [], .null),
    (7, .iconst 0, 1, 0, 0, 0, 0, 0, [], .int 0),
    (8, .aload_n 0, 1, 3, 0, 0, 0, 0, [], .null),
    (9, .getfield 45, 3, 24, 11, 2, 0, 0, [], .null),
    (12, .invokestatic 64, 3, 48, 139, 3, 0, 0, [], .null),
    (15, .ifCond .ne 7, 3, 20, 22, 1, 0, 0, [], .null),
    (18, .iconst 1, 1, 0, 0, 0, 0, 0, [], .int 1),
    (19, .goto 4, 3, 22, 23, 0, 0, 0, [], .null)]
def kX11_load_22 : List Item := [(22, .iconst 0, 1, 0, 0, 0, 0, 0, [], .int 0),
    (23, .iconst 1, 1, 0, 0, 0, 0, 0, [], .int 1),
    (24, .invokevirtual 169, 3, 48, 129, 3, 0, 0, [11], .null),
    (27, .ifCond .eq 5, 3, 20, 32, 0, 0, 0, [], .null),
    (30, .iconst 0, 1, 0, 0, 0, 0, 0, [], .int 0),
    (31, .ireturn, 1, 56, 0, 0, 0, 0, [], .null)]
def kX11_load_23 : List Item := [(23, .iconst 1, 1, 0, 0, 0, 0, 0, [], .int 1),
    (24, .invokevirtual 169, 3, 48, 129, 3, 0, 0, [11], .null),
    (27, .ifCond .eq 5, 3, 20, 32, 0, 0, 0, [], .null),
    (30, .iconst 0, 1, 0, 0, 0, 0, 0, [], .int 0),
    (31, .ireturn, 1, 56, 0, 0, 0, 0, [], .null)]
def kX11_load_32 : List Item := [(32, .aload_n 0, 1, 3, 0, 0, 0, 0, [], .null),
    (33, .iconst 0, 1, 0, 0, 0, 0, 0, [], .int 0),
    (34, .putfield 45, 3, 27, 11, 2, 0, 0, [], .null),
    (37, .aload_n 0, 1, 3, 0, 0, 0, 0, [], .null),
    (38, .iload_n 1, 1, 1, 1, 0, 0, 0, [], .null),
    (39, .putfield 48, 3, 27, 11, 3, 0, 0, [], .null),
    (42, .aload_n 0, 1, 3, 0, 0, 0, 0, [], .null),
    (43, .iconst 0, 1, 0, 0, 0, 0, 0, [], .int 0),
    (44, .putfield 51, 3, 27, 11, 4, 0, 0, [], .null),
    (47, .aload_n 0, 1, 3, 0, 0, 0, 0, [], .null),
    (48, .iconst 0, 1, 0, 0, 0, 0, 0, [], .int 0),
    (49, .putfield 58, 3, 27, 11, 5, 0, 0, [], .null),
    (52, .aload_n 0, 1, 3, 0, 0, 0, 0, [], .null),
    (53, .iconst (-1), 1, 0, 0, 0, 0, 0, [], .int (-1)),
    (54, .putfield 61, 3, 27, 11, 6, 0, 0, [], .null),
    (57, .aload_n 0, 1, 3, 0, 0, 0, 0, [], .null),
    (58, .iconst 0, 1, 0, 0, 0, 0, 0, [], .int 0),
    (59, .putfield 101, 3, 27, 11, 14, 0, 0, [], .null),
    (62, .aload_n 0, 1, 3, 0, 0, 0, 0, [], .null),
    (63, .iconst 0, 1, 0, 0, 0, 0, 0, [], .int 0),
    (64, .putfield 166, 3, 27, 11, 15, 0, 0, [], .null),
    (67, .iconst 0, 1, 0, 0, 0, 0, 0, [], .int 0),
    (68, .istore_n 2, 1, 4, 2, 0, 0, 0, [], .null),
    (69, .nop, 0, 60, 69, 0, 0, 0, [], .null)]
def kX11_load_69 : List Item := [(69, .iload_n 2, 1, 1, 2, 0, 0, 0, [], .null),
    (70, .sipush 1793, 3, 0, 0, 0, 0, 0, [], .int 1793),
    (73, .if_icmp .ge 16, 3, 21, 89, 3, 0, 0, [], .null),
    (76, .aload_n 0, 1, 3, 0, 0, 0, 0, [], .null),
    (77, .getfield 20, 3, 26, 11, 9, 0, 0, [], .null),
    (80, .iload_n 2, 1, 1, 2, 0, 0, 0, [], .null),
    (81, .iconst 0, 1, 0, 0, 0, 0, 0, [], .int 0),
    (82, .iastore, 1, 35, 0, 0, 0, 0, [], .null),
    (83, .iinc 2 1, 3, 7, 2, 0, 0, 0, [], .int 1),
    (86, .goto (-17), 3, 22, 69, 0, 0, 0, [], .null)]
def kX11_load_89 : List Item := [(89, .aload_n 0, 1, 3, 0, 0, 0, 0, [], .null),
    (90, .invokevirtual 68, 3, 48, 146, 1, 0, 0, [11], .null),
    (93, .ifCond .eq 18, 3, 20, 111, 0, 0, 0, [], .null),
    (96, .aload_n 0, 1, 3, 0, 0, 0, 0, [], .null),
    (97, .invokevirtual 72, 3, 48, 151, 1, 0, 0, [11], .null),
    (100, .iconst (-1), 1, 0, 0, 0, 0, 0, [], .int (-1)),
    (101, .if_icmp .eq 10, 3, 21, 111, 0, 0, 0, [], .null),
    (104, .aload_n 0, 1, 3, 0, 0, 0, 0, [], .null),
    (105, .invokevirtual 173, 3, 48, 169, 1, 0, 0, [11], .null),
    (108, .goto (-19), 3, 22, 89, 0, 0, 0, [], .null)]
def kX11_load_111 : List Item := [(111, .aload_n 0, 1, 3, 0, 0, 0, 0, [], .null),
    (112, .aload_n 0, 1, 3, 0, 0, 0, 0, [], .null),
    (113, .getfield 61, 3, 24, 11, 6, 0, 0, [], .null),
    (116, .putfield 13, 3, 27, 11, 7, 0, 0, [], .null),
    (119, .aload_n 0, 1, 3, 0, 0, 0, 0, [], .null),
    (120, .invokevirtual 68, 3, 48, 146, 1, 0, 0, [11], .null),
    (123, .ifCond .ne 8, 3, 20, 131, 1, 0, 0, [], .null),
    (126, .aload_n 0, 1, 3, 0, 0, 0, 0, [], .null),
    (127, .getfield 58, 3, 24, 11, 5, 0, 0, [], .null),
    (130, .ireturn, 1, 56, 0, 0, 0, 0, [], .null)]
def kX11_load_131 : List Item := [(131, .aload_n 0, 1, 3, 0, 0, 0, 0, [], .null),
    (132, .invokevirtual 176, 3, 48, 165, 1, 0, 0, [11], .null),
    (135, .aload_n 0, 1, 3, 0, 0, 0, 0, [], .null),
    (136, .getfield 20, 3, 26, 11, 9, 0, 0, [], .null),
    (139, .aload_n 0, 1, 3, 0, 0, 0, 0, [], .null),
    (140, .getfield 17, 3, 26, 11, 8, 0, 0, [], .null),
    (143, .invokestatic 179, 3, 48, 117, 2, 0, 0, [], .null),
    (146, .aload_n 0, 1, 3, 0, 0, 0, 0, [], .null),
    (147, .getfield 166, 3, 24, 11, 15, 0, 0, [], .null),
    (150, .ireturn, 1, 56, 0, 0, 0, 0, [], .null)]
def kX11_load : Code9 := [(0, kX11_load_0), (22, kX11_load_22), (23, kX11_load_23), (32, kX11_load_32), (69, kX11_load_69), (89, kX11_load_89), (111, kX11_load_111), (131, kX11_load_131)]
theorem rX11_load_0 (sa : Nat → Nat) (E : Nat → Sem) (MC MS : Nat) (HX : Nat → Nat → Option Nat) (Q : Option Value → Mm → Prop) (X : Nat → Mm → Prop) (L : List Slot) (st : List Value) (M : Mm) (nc ns : Nat) : Run sa E MC MS HX Q X kX11_load 0 L st M nc ns = bk sa E MC MS HX (Run sa E MC MS HX Q X kX11_load) Q X kX11_load_0 L st M nc ns := Run_eq sa E MC MS HX Q X _ _ _ _ _ _ _
theorem rX11_load_22 (sa : Nat → Nat) (E : Nat → Sem) (MC MS : Nat) (HX : Nat → Nat → Option Nat) (Q : Option Value → Mm → Prop) (X : Nat → Mm → Prop) (L : List Slot) (st : List Value) (M : Mm) (nc ns : Nat) : Run sa E MC MS HX Q X kX11_load 22 L st M nc ns = bk sa E MC MS HX (Run sa E MC MS HX Q X kX11_load) Q X kX11_load_22 L st M nc ns := Run_eq sa E MC MS HX Q X _ _ _ _ _ _ _
theorem rX11_load_23 (sa : Nat → Nat) (E : Nat → Sem) (MC MS : Nat) (HX : Nat → Nat → Option Nat) (Q : Option Value → Mm → Prop) (X : Nat → Mm → Prop) (L : List Slot) (st : List Value) (M : Mm) (nc ns : Nat) : Run sa E MC MS HX Q X kX11_load 23 L st M nc ns = bk sa E MC MS HX (Run sa E MC MS HX Q X kX11_load) Q X kX11_load_23 L st M nc ns := Run_eq sa E MC MS HX Q X _ _ _ _ _ _ _
theorem rX11_load_32 (sa : Nat → Nat) (E : Nat → Sem) (MC MS : Nat) (HX : Nat → Nat → Option Nat) (Q : Option Value → Mm → Prop) (X : Nat → Mm → Prop) (L : List Slot) (st : List Value) (M : Mm) (nc ns : Nat) : Run sa E MC MS HX Q X kX11_load 32 L st M nc ns = bk sa E MC MS HX (Run sa E MC MS HX Q X kX11_load) Q X kX11_load_32 L st M nc ns := Run_eq sa E MC MS HX Q X _ _ _ _ _ _ _
theorem rX11_load_69 (sa : Nat → Nat) (E : Nat → Sem) (MC MS : Nat) (HX : Nat → Nat → Option Nat) (Q : Option Value → Mm → Prop) (X : Nat → Mm → Prop) (L : List Slot) (st : List Value) (M : Mm) (nc ns : Nat) : Run sa E MC MS HX Q X kX11_load 69 L st M nc ns = bk sa E MC MS HX (Run sa E MC MS HX Q X kX11_load) Q X kX11_load_69 L st M nc ns := Run_eq sa E MC MS HX Q X _ _ _ _ _ _ _
theorem rX11_load_89 (sa : Nat → Nat) (E : Nat → Sem) (MC MS : Nat) (HX : Nat → Nat → Option Nat) (Q : Option Value → Mm → Prop) (X : Nat → Mm → Prop) (L : List Slot) (st : List Value) (M : Mm) (nc ns : Nat) : Run sa E MC MS HX Q X kX11_load 89 L st M nc ns = bk sa E MC MS HX (Run sa E MC MS HX Q X kX11_load) Q X kX11_load_89 L st M nc ns := Run_eq sa E MC MS HX Q X _ _ _ _ _ _ _
theorem rX11_load_111 (sa : Nat → Nat) (E : Nat → Sem) (MC MS : Nat) (HX : Nat → Nat → Option Nat) (Q : Option Value → Mm → Prop) (X : Nat → Mm → Prop) (L : List Slot) (st : List Value) (M : Mm) (nc ns : Nat) : Run sa E MC MS HX Q X kX11_load 111 L st M nc ns = bk sa E MC MS HX (Run sa E MC MS HX Q X kX11_load) Q X kX11_load_111 L st M nc ns := Run_eq sa E MC MS HX Q X _ _ _ _ _ _ _
theorem rX11_load_131 (sa : Nat → Nat) (E : Nat → Sem) (MC MS : Nat) (HX : Nat → Nat → Option Nat) (Q : Option Value → Mm → Prop) (X : Nat → Mm → Prop) (L : List Slot) (st : List Value) (M : Mm) (nc ns : Nat) : Run sa E MC MS HX Q X kX11_load 131 L st M nc ns = bk sa E MC MS HX (Run sa E MC MS HX Q X kX11_load) Q X kX11_load_131 L st M nc ns := Run_eq sa E MC MS HX Q X _ _ _ _ _ _ _
def kX11_min_0 : List Item := [(0, .iload_n 0, 1, 1, 0, 0, 0, 0, [], .null),
    (1, .iload_n 1, 1, 1, 1, 0, 0, 0, [], .null),
    (2, .if_icmp .ge 7, 3, 21, 9, 3, 0, 0, [], .null),
    (5, .iload_n 0, 1, 1, 0, 0, 0, 0, [], .null),
    (6, .goto 4, 3, 22, 10, 0, 0, 0, [], .null)]
def kX11_min_9 : List Item := [(9, .iload_n 1, 1, 1, 1, 0, 0, 0, [], .null),
    (10, .ireturn, 1, 56, 0, 0, 0, 0, [], .null)]
def kX11_min_10 : List Item := [(10, .ireturn, 1, 56, 0, 0, 0, 0, [], .null)]
def kX11_min : Code9 := [(0, kX11_min_0), (9, kX11_min_9), (10, kX11_min_10)]
theorem rX11_min_0 (sa : Nat → Nat) (E : Nat → Sem) (MC MS : Nat) (HX : Nat → Nat → Option Nat) (Q : Option Value → Mm → Prop) (X : Nat → Mm → Prop) (L : List Slot) (st : List Value) (M : Mm) (nc ns : Nat) : Run sa E MC MS HX Q X kX11_min 0 L st M nc ns = bk sa E MC MS HX (Run sa E MC MS HX Q X kX11_min) Q X kX11_min_0 L st M nc ns := Run_eq sa E MC MS HX Q X _ _ _ _ _ _ _
theorem rX11_min_9 (sa : Nat → Nat) (E : Nat → Sem) (MC MS : Nat) (HX : Nat → Nat → Option Nat) (Q : Option Value → Mm → Prop) (X : Nat → Mm → Prop) (L : List Slot) (st : List Value) (M : Mm) (nc ns : Nat) : Run sa E MC MS HX Q X kX11_min 9 L st M nc ns = bk sa E MC MS HX (Run sa E MC MS HX Q X kX11_min) Q X kX11_min_9 L st M nc ns := Run_eq sa E MC MS HX Q X _ _ _ _ _ _ _
theorem rX11_min_10 (sa : Nat → Nat) (E : Nat → Sem) (MC MS : Nat) (HX : Nat → Nat → Option Nat) (Q : Option Value → Mm → Prop) (X : Nat → Mm → Prop) (L : List Slot) (st : List Value) (M : Mm) (nc ns : Nat) : Run sa E MC MS HX Q X kX11_min 10 L st M nc ns = bk sa E MC MS HX (Run sa E MC MS HX Q X kX11_min) Q X kX11_min_10 L st M nc ns := Run_eq sa E MC MS HX Q X _ _ _ _ _ _ _
def kX11_next_0 : List Item := [(0, .aload_n 0, 1, 3, 0, 0, 0, 0, [], .null),
    (1, .aload_n 0, 1, 3, 0, 0, 0, 0, [], .null),
    (2, .getfield 51, 3, 24, 11, 4, 0, 0, [], .null),
    (5, .invokevirtual 54, 3, 48, 112, 2, 0, 0, [11], .null),
    (8, .bipush 32, 2, 0, 0, 0, 0, 0, [], .int 32),
    (10, .if_icmp .ne 16, 3, 21, 26, 1, 0, 0, [], .null),
    (13, .aload_n 0, 1, 3, 0, 0, 0, 0, [], .null),
    (14, .dup, 1, 16, 0, 0, 0, 0, [], .null),
    (15, .getfield 51, 3, 24, 11, 4, 0, 0, [], .null),
    (18, .iconst 1, 1, 0, 0, 0, 0, 0, [], .int 1),
    (19, .iadd, 1, 8, 0, 0, 0, 0, [], .null),
    (20, .putfield 51, 3, 27, 11, 4, 0, 0, [], .null),
    (23, .goto (-23), 3, 22, 0, 0, 0, 0, [], .null)]
def kX11_next_26 : List Item := [(26, .aload_n 0, 1, 3, 0, 0, 0, 0, [], .null),
    (27, .aload_n 0, 1, 3, 0, 0, 0, 0, [], .null),
    (28, .getfield 51, 3, 24, 11, 4, 0, 0, [], .null),
    (31, .invokevirtual 54, 3, 48, 112, 2, 0, 0, [11], .null),
    (34, .ireturn, 1, 56, 0, 0, 0, 0, [], .null)]
def kX11_next : Code9 := [(0, kX11_next_0), (26, kX11_next_26)]
theorem rX11_next_0 (sa : Nat → Nat) (E : Nat → Sem) (MC MS : Nat) (HX : Nat → Nat → Option Nat) (Q : Option Value → Mm → Prop) (X : Nat → Mm → Prop) (L : List Slot) (st : List Value) (M : Mm) (nc ns : Nat) : Run sa E MC MS HX Q X kX11_next 0 L st M nc ns = bk sa E MC MS HX (Run sa E MC MS HX Q X kX11_next) Q X kX11_next_0 L st M nc ns := Run_eq sa E MC MS HX Q X _ _ _ _ _ _ _
theorem rX11_next_26 (sa : Nat → Nat) (E : Nat → Sem) (MC MS : Nat) (HX : Nat → Nat → Option Nat) (Q : Option Value → Mm → Prop) (X : Nat → Mm → Prop) (L : List Slot) (st : List Value) (M : Mm) (nc ns : Nat) : Run sa E MC MS HX Q X kX11_next 26 L st M nc ns = bk sa E MC MS HX (Run sa E MC MS HX Q X kX11_next) Q X kX11_next_26 L st M nc ns := Run_eq sa E MC MS HX Q X _ _ _ _ _ _ _
def kX11_noCanal_0 : List Item := [(0, .aload_n 0, 1, 3, 0, 0, 0, 0, [], .null),
    (1, .iload_n 1, 1, 1, 1, 0, 0, 0, [], .null),
    (2, .iconst 0, 1, 0, 0, 0, 0, 0, [], .int 0),
    (3, .aload_n 0, 1, 3, 0, 0, 0, 0, [], .null),
    (4, .getfield 17, 3, 26, 11, 8, 0, 0, [], .null),
    (7, .iconst 0, 1, 0, 0, 0, 0, 0, [], .int 0),
    (8, .iaload, 1, 31, 0, 0, 0, 0, [], .null),
    (9, .iconst 1, 1, 0, 0, 0, 0, 0, [], .int 1),
    (10, .isub, 1, 8, 0, 1, 0, 0, [], .null),
    (11, .invokestatic 64, 3, 48, 139, 3, 0, 0, [], .null),
    (14, .ifCond .ne 7, 3, 20, 21, 1, 0, 0, [], .null),
    (17, .iconst 1, 1, 0, 0, 0, 0, 0, [], .int 1),
    (18, .goto 4, 3, 22, 22, 0, 0, 0, [], .null)]
def kX11_noCanal_21 : List Item := [(21, .iconst 0, 1, 0, 0, 0, 0, 0, [], .int 0),
    (22, .iconst 1, 1, 0, 0, 0, 0, 0, [], .int 1),
    (23, .invokevirtual 169, 3, 48, 129, 3, 0, 0, [11], .null),
    (26, .ireturn, 1, 58, 0, 0, 0, 0, [], .null)]
def kX11_noCanal_22 : List Item := [(22, .iconst 1, 1, 0, 0, 0, 0, 0, [], .int 1),
    (23, .invokevirtual 169, 3, 48, 129, 3, 0, 0, [11], .null),
    (26, .ireturn, 1, 58, 0, 0, 0, 0, [], .null)]
def kX11_noCanal : Code9 := [(0, kX11_noCanal_0), (21, kX11_noCanal_21), (22, kX11_noCanal_22)]
theorem rX11_noCanal_0 (sa : Nat → Nat) (E : Nat → Sem) (MC MS : Nat) (HX : Nat → Nat → Option Nat) (Q : Option Value → Mm → Prop) (X : Nat → Mm → Prop) (L : List Slot) (st : List Value) (M : Mm) (nc ns : Nat) : Run sa E MC MS HX Q X kX11_noCanal 0 L st M nc ns = bk sa E MC MS HX (Run sa E MC MS HX Q X kX11_noCanal) Q X kX11_noCanal_0 L st M nc ns := Run_eq sa E MC MS HX Q X _ _ _ _ _ _ _
theorem rX11_noCanal_21 (sa : Nat → Nat) (E : Nat → Sem) (MC MS : Nat) (HX : Nat → Nat → Option Nat) (Q : Option Value → Mm → Prop) (X : Nat → Mm → Prop) (L : List Slot) (st : List Value) (M : Mm) (nc ns : Nat) : Run sa E MC MS HX Q X kX11_noCanal 21 L st M nc ns = bk sa E MC MS HX (Run sa E MC MS HX Q X kX11_noCanal) Q X kX11_noCanal_21 L st M nc ns := Run_eq sa E MC MS HX Q X _ _ _ _ _ _ _
theorem rX11_noCanal_22 (sa : Nat → Nat) (E : Nat → Sem) (MC MS : Nat) (HX : Nat → Nat → Option Nat) (Q : Option Value → Mm → Prop) (X : Nat → Mm → Prop) (L : List Slot) (st : List Value) (M : Mm) (nc ns : Nat) : Run sa E MC MS HX Q X kX11_noCanal 22 L st M nc ns = bk sa E MC MS HX (Run sa E MC MS HX Q X kX11_noCanal) Q X kX11_noCanal_22 L st M nc ns := Run_eq sa E MC MS HX Q X _ _ _ _ _ _ _
def kX11_noField_0 : List Item := [(0, .aload_n 0, 1, 3, 0, 0, 0, 0, [], .null),
    (1, .iload_n 1, 1, 1, 1, 0, 0, 0, [], .null),
    (2, .iconst 0, 1, 0, 0, 0, 0, 0, [], .int 0),
    (3, .aload_n 0, 1, 3, 0, 0, 0, 0, [], .null),
    (4, .getfield 17, 3, 26, 11, 8, 0, 0, [], .null),
    (7, .iconst 1, 1, 0, 0, 0, 0, 0, [], .int 1),
    (8, .iaload, 1, 31, 0, 0, 0, 0, [], .null),
    (9, .iconst 1, 1, 0, 0, 0, 0, 0, [], .int 1),
    (10, .isub, 1, 8, 0, 1, 0, 0, [], .null),
    (11, .invokestatic 64, 3, 48, 139, 3, 0, 0, [], .null),
    (14, .ifCond .ne 7, 3, 20, 21, 1, 0, 0, [], .null),
    (17, .iconst 1, 1, 0, 0, 0, 0, 0, [], .int 1),
    (18, .goto 4, 3, 22, 22, 0, 0, 0, [], .null)]
def kX11_noField_21 : List Item := [(21, .iconst 0, 1, 0, 0, 0, 0, 0, [], .int 0),
    (22, .iconst 1, 1, 0, 0, 0, 0, 0, [], .int 1),
    (23, .invokevirtual 169, 3, 48, 129, 3, 0, 0, [11], .null),
    (26, .ireturn, 1, 58, 0, 0, 0, 0, [], .null)]
def kX11_noField_22 : List Item := [(22, .iconst 1, 1, 0, 0, 0, 0, 0, [], .int 1),
    (23, .invokevirtual 169, 3, 48, 129, 3, 0, 0, [11], .null),
    (26, .ireturn, 1, 58, 0, 0, 0, 0, [], .null)]
def kX11_noField : Code9 := [(0, kX11_noField_0), (21, kX11_noField_21), (22, kX11_noField_22)]
theorem rX11_noField_0 (sa : Nat → Nat) (E : Nat → Sem) (MC MS : Nat) (HX : Nat → Nat → Option Nat) (Q : Option Value → Mm → Prop) (X : Nat → Mm → Prop) (L : List Slot) (st : List Value) (M : Mm) (nc ns : Nat) : Run sa E MC MS HX Q X kX11_noField 0 L st M nc ns = bk sa E MC MS HX (Run sa E MC MS HX Q X kX11_noField) Q X kX11_noField_0 L st M nc ns := Run_eq sa E MC MS HX Q X _ _ _ _ _ _ _
theorem rX11_noField_21 (sa : Nat → Nat) (E : Nat → Sem) (MC MS : Nat) (HX : Nat → Nat → Option Nat) (Q : Option Value → Mm → Prop) (X : Nat → Mm → Prop) (L : List Slot) (st : List Value) (M : Mm) (nc ns : Nat) : Run sa E MC MS HX Q X kX11_noField 21 L st M nc ns = bk sa E MC MS HX (Run sa E MC MS HX Q X kX11_noField) Q X kX11_noField_21 L st M nc ns := Run_eq sa E MC MS HX Q X _ _ _ _ _ _ _
theorem rX11_noField_22 (sa : Nat → Nat) (E : Nat → Sem) (MC MS : Nat) (HX : Nat → Nat → Option Nat) (Q : Option Value → Mm → Prop) (X : Nat → Mm → Prop) (L : List Slot) (st : List Value) (M : Mm) (nc ns : Nat) : Run sa E MC MS HX Q X kX11_noField 22 L st M nc ns = bk sa E MC MS HX (Run sa E MC MS HX Q X kX11_noField) Q X kX11_noField_22 L st M nc ns := Run_eq sa E MC MS HX Q X _ _ _ _ _ _ _
def kX11_noVillage_0 : List Item := [(0, .aload_n 0, 1, 3, 0, 0, 0, 0, [], .null),
    (1, .iload_n 1, 1, 1, 1, 0, 0, 0, [], .null),
    (2, .iconst 0, 1, 0, 0, 0, 0, 0, [], .int 0),
    (3, .iconst 5, 1, 0, 0, 0, 0, 0, [], .int 5),
    (4, .invokestatic 64, 3, 48, 139, 3, 0, 0, [], .null),
    (7, .ifCond .ne 7, 3, 20, 14, 1, 0, 0, [], .null),
    (10, .iconst 1, 1, 0, 0, 0, 0, 0, [], .int 1),
    (11, .goto 4, 3, 22, 15, 0, 0, 0, [], .null)]
def kX11_noVillage_14 : List Item := [(14, .iconst 0, 1, 0, 0, 0, 0, 0, [], .int 0),
    (15, .iconst 1, 1, 0, 0, 0, 0, 0, [], .int 1),
    (16, .invokevirtual 169, 3, 48, 129, 3, 0, 0, [11], .null),
    (19, .ireturn, 1, 58, 0, 0, 0, 0, [], .null)]
def kX11_noVillage_15 : List Item := [(15, .iconst 1, 1, 0, 0, 0, 0, 0, [], .int 1),
    (16, .invokevirtual 169, 3, 48, 129, 3, 0, 0, [11], .null),
    (19, .ireturn, 1, 58, 0, 0, 0, 0, [], .null)]
def kX11_noVillage : Code9 := [(0, kX11_noVillage_0), (14, kX11_noVillage_14), (15, kX11_noVillage_15)]
theorem rX11_noVillage_0 (sa : Nat → Nat) (E : Nat → Sem) (MC MS : Nat) (HX : Nat → Nat → Option Nat) (Q : Option Value → Mm → Prop) (X : Nat → Mm → Prop) (L : List Slot) (st : List Value) (M : Mm) (nc ns : Nat) : Run sa E MC MS HX Q X kX11_noVillage 0 L st M nc ns = bk sa E MC MS HX (Run sa E MC MS HX Q X kX11_noVillage) Q X kX11_noVillage_0 L st M nc ns := Run_eq sa E MC MS HX Q X _ _ _ _ _ _ _
theorem rX11_noVillage_14 (sa : Nat → Nat) (E : Nat → Sem) (MC MS : Nat) (HX : Nat → Nat → Option Nat) (Q : Option Value → Mm → Prop) (X : Nat → Mm → Prop) (L : List Slot) (st : List Value) (M : Mm) (nc ns : Nat) : Run sa E MC MS HX Q X kX11_noVillage 14 L st M nc ns = bk sa E MC MS HX (Run sa E MC MS HX Q X kX11_noVillage) Q X kX11_noVillage_14 L st M nc ns := Run_eq sa E MC MS HX Q X _ _ _ _ _ _ _
theorem rX11_noVillage_15 (sa : Nat → Nat) (E : Nat → Sem) (MC MS : Nat) (HX : Nat → Nat → Option Nat) (Q : Option Value → Mm → Prop) (X : Nat → Mm → Prop) (L : List Slot) (st : List Value) (M : Mm) (nc ns : Nat) : Run sa E MC MS HX Q X kX11_noVillage 15 L st M nc ns = bk sa E MC MS HX (Run sa E MC MS HX Q X kX11_noVillage) Q X kX11_noVillage_15 L st M nc ns := Run_eq sa E MC MS HX Q X _ _ _ _ _ _ _
def kX11_number_0 : List Item := [(0, .aload_n 0, 1, 3, 0, 0, 0, 0, [], .null),
    (1, .invokevirtual 68, 3, 48, 146, 1, 0, 0, [11], .null),
    (4, .ifCond .ne 5, 3, 20, 9, 1, 0, 0, [], .null),
    (7, .iconst 0, 1, 0, 0, 0, 0, 0, [], .int 0),
    (8, .ireturn, 1, 56, 0, 0, 0, 0, [], .null)]
def kX11_number_9 : List Item := [(9, .aload_n 0, 1, 3, 0, 0, 0, 0, [], .null),
    (10, .invokevirtual 72, 3, 48, 151, 1, 0, 0, [11], .null),
    (13, .invokestatic 89, 3, 48, 144, 1, 0, 0, [], .null),
    (16, .ifCond .ne 15, 3, 20, 31, 1, 0, 0, [], .null),
    (19, .aload_n 0, 1, 3, 0, 0, 0, 0, [], .null),
    (20, .bipush (-2), 2, 0, 0, 0, 0, 0, [], .int (-2)),
    (22, .aload_n 0, 1, 3, 0, 0, 0, 0, [], .null),
    (23, .getfield 51, 3, 24, 11, 4, 0, 0, [], .null),
    (26, .invokevirtual 85, 3, 48, 166, 3, 0, 0, [11], .null),
    (29, .iconst 0, 1, 0, 0, 0, 0, 0, [], .int 0),
    (30, .ireturn, 1, 56, 0, 0, 0, 0, [], .null)]
def kX11_number_31 : List Item := [(31, .aload_n 0, 1, 3, 0, 0, 0, 0, [], .null),
    (32, .aload_n 0, 1, 3, 0, 0, 0, 0, [], .null),
    (33, .getfield 51, 3, 24, 11, 4, 0, 0, [], .null),
    (36, .putfield 93, 3, 27, 11, 13, 0, 0, [], .null),
    (39, .iconst 0, 1, 0, 0, 0, 0, 0, [], .int 0),
    (40, .istore_n 3, 1, 4, 3, 0, 0, 0, [], .null),
    (41, .nop, 0, 60, 41, 0, 0, 0, [], .null)]
def kX11_number_41 : List Item := [(41, .aload_n 0, 1, 3, 0, 0, 0, 0, [], .null),
    (42, .aload_n 0, 1, 3, 0, 0, 0, 0, [], .null),
    (43, .getfield 51, 3, 24, 11, 4, 0, 0, [], .null),
    (46, .invokevirtual 54, 3, 48, 112, 2, 0, 0, [11], .null),
    (49, .invokestatic 89, 3, 48, 144, 1, 0, 0, [], .null),
    (52, .ifCond .eq 38, 3, 20, 90, 0, 0, 0, [], .null),
    (55, .ldc 96, 2, 0, 0, 0, 0, 0, [], .int 1000000),
    (57, .bipush 10, 2, 0, 0, 0, 0, 0, [], .int 10),
    (59, .iload_n 3, 1, 1, 3, 0, 0, 0, [], .null),
    (60, .imul, 1, 8, 0, 2, 0, 0, [], .null),
    (61, .aload_n 0, 1, 3, 0, 0, 0, 0, [], .null),
    (62, .aload_n 0, 1, 3, 0, 0, 0, 0, [], .null),
    (63, .getfield 51, 3, 24, 11, 4, 0, 0, [], .null),
    (66, .invokevirtual 54, 3, 48, 112, 2, 0, 0, [11], .null),
    (69, .iadd, 1, 8, 0, 0, 0, 0, [], .null),
    (70, .bipush 48, 2, 0, 0, 0, 0, 0, [], .int 48),
    (72, .isub, 1, 8, 0, 1, 0, 0, [], .null),
    (73, .invokestatic 97, 3, 48, 150, 2, 0, 0, [], .null),
    (76, .istore_n 3, 1, 4, 3, 0, 0, 0, [], .null),
    (77, .aload_n 0, 1, 3, 0, 0, 0, 0, [], .null),
    (78, .dup, 1, 16, 0, 0, 0, 0, [], .null),
    (79, .getfield 51, 3, 24, 11, 4, 0, 0, [], .null),
    (82, .iconst 1, 1, 0, 0, 0, 0, 0, [], .int 1),
    (83, .iadd, 1, 8, 0, 0, 0, 0, [], .null),
    (84, .putfield 51, 3, 27, 11, 4, 0, 0, [], .null),
    (87, .goto (-46), 3, 22, 41, 0, 0, 0, [], .null)]
def kX11_number_90 : List Item := [(90, .iload_n 3, 1, 1, 3, 0, 0, 0, [], .null),
    (91, .iload_n 1, 1, 1, 1, 0, 0, 0, [], .null),
    (92, .iload_n 2, 1, 1, 2, 0, 0, 0, [], .null),
    (93, .invokestatic 64, 3, 48, 139, 3, 0, 0, [], .null),
    (96, .ifCond .ne 13, 3, 20, 109, 1, 0, 0, [], .null),
    (99, .aload_n 0, 1, 3, 0, 0, 0, 0, [], .null),
    (100, .bipush (-3), 2, 0, 0, 0, 0, 0, [], .int (-3)),
    (102, .aload_n 0, 1, 3, 0, 0, 0, 0, [], .null),
    (103, .getfield 93, 3, 24, 11, 13, 0, 0, [], .null),
    (106, .invokevirtual 85, 3, 48, 166, 3, 0, 0, [11], .null),
    (109, .iload_n 3, 1, 1, 3, 0, 0, 0, [], .null),
    (110, .ireturn, 1, 56, 0, 0, 0, 0, [], .null)]
def kX11_number_109 : List Item := [(109, .iload_n 3, 1, 1, 3, 0, 0, 0, [], .null),
    (110, .ireturn, 1, 56, 0, 0, 0, 0, [], .null)]
def kX11_number : Code9 := [(0, kX11_number_0), (9, kX11_number_9), (31, kX11_number_31), (41, kX11_number_41), (90, kX11_number_90), (109, kX11_number_109)]
theorem rX11_number_0 (sa : Nat → Nat) (E : Nat → Sem) (MC MS : Nat) (HX : Nat → Nat → Option Nat) (Q : Option Value → Mm → Prop) (X : Nat → Mm → Prop) (L : List Slot) (st : List Value) (M : Mm) (nc ns : Nat) : Run sa E MC MS HX Q X kX11_number 0 L st M nc ns = bk sa E MC MS HX (Run sa E MC MS HX Q X kX11_number) Q X kX11_number_0 L st M nc ns := Run_eq sa E MC MS HX Q X _ _ _ _ _ _ _
theorem rX11_number_9 (sa : Nat → Nat) (E : Nat → Sem) (MC MS : Nat) (HX : Nat → Nat → Option Nat) (Q : Option Value → Mm → Prop) (X : Nat → Mm → Prop) (L : List Slot) (st : List Value) (M : Mm) (nc ns : Nat) : Run sa E MC MS HX Q X kX11_number 9 L st M nc ns = bk sa E MC MS HX (Run sa E MC MS HX Q X kX11_number) Q X kX11_number_9 L st M nc ns := Run_eq sa E MC MS HX Q X _ _ _ _ _ _ _
theorem rX11_number_31 (sa : Nat → Nat) (E : Nat → Sem) (MC MS : Nat) (HX : Nat → Nat → Option Nat) (Q : Option Value → Mm → Prop) (X : Nat → Mm → Prop) (L : List Slot) (st : List Value) (M : Mm) (nc ns : Nat) : Run sa E MC MS HX Q X kX11_number 31 L st M nc ns = bk sa E MC MS HX (Run sa E MC MS HX Q X kX11_number) Q X kX11_number_31 L st M nc ns := Run_eq sa E MC MS HX Q X _ _ _ _ _ _ _
theorem rX11_number_41 (sa : Nat → Nat) (E : Nat → Sem) (MC MS : Nat) (HX : Nat → Nat → Option Nat) (Q : Option Value → Mm → Prop) (X : Nat → Mm → Prop) (L : List Slot) (st : List Value) (M : Mm) (nc ns : Nat) : Run sa E MC MS HX Q X kX11_number 41 L st M nc ns = bk sa E MC MS HX (Run sa E MC MS HX Q X kX11_number) Q X kX11_number_41 L st M nc ns := Run_eq sa E MC MS HX Q X _ _ _ _ _ _ _
theorem rX11_number_90 (sa : Nat → Nat) (E : Nat → Sem) (MC MS : Nat) (HX : Nat → Nat → Option Nat) (Q : Option Value → Mm → Prop) (X : Nat → Mm → Prop) (L : List Slot) (st : List Value) (M : Mm) (nc ns : Nat) : Run sa E MC MS HX Q X kX11_number 90 L st M nc ns = bk sa E MC MS HX (Run sa E MC MS HX Q X kX11_number) Q X kX11_number_90 L st M nc ns := Run_eq sa E MC MS HX Q X _ _ _ _ _ _ _
theorem rX11_number_109 (sa : Nat → Nat) (E : Nat → Sem) (MC MS : Nat) (HX : Nat → Nat → Option Nat) (Q : Option Value → Mm → Prop) (X : Nat → Mm → Prop) (L : List Slot) (st : List Value) (M : Mm) (nc ns : Nat) : Run sa E MC MS HX Q X kX11_number 109 L st M nc ns = bk sa E MC MS HX (Run sa E MC MS HX Q X kX11_number) Q X kX11_number_109 L st M nc ns := Run_eq sa E MC MS HX Q X _ _ _ _ _ _ _
def kX11_open_0 : List Item := [(0, .aload_n 0, 1, 3, 0, 0, 0, 0, [], .null),
    (1, .iload_n 1, 1, 1, 1, 0, 0, 0, [], .null),
    (2, .invokestatic 140, 3, 48, 131, 1, 0, 0, [], .null),
    (5, .bipush 10, 2, 0, 0, 0, 0, 0, [], .int 10),
    (7, .iadd, 1, 8, 0, 0, 0, 0, [], .null),
    (8, .iaload, 1, 31, 0, 0, 0, 0, [], .null),
    (9, .iconst 1, 1, 0, 0, 0, 0, 0, [], .int 1),
    (10, .if_icmp .eq 21, 3, 21, 31, 0, 0, 0, [], .null),
    (13, .aload_n 0, 1, 3, 0, 0, 0, 0, [], .null),
    (14, .iload_n 1, 1, 1, 1, 0, 0, 0, [], .null),
    (15, .invokestatic 140, 3, 48, 131, 1, 0, 0, [], .null),
    (18, .iconst 1, 1, 0, 0, 0, 0, 0, [], .int 1),
    (19, .iadd, 1, 8, 0, 0, 0, 0, [], .null),
    (20, .iaload, 1, 31, 0, 0, 0, 0, [], .null),
    (21, .aload_n 0, 1, 3, 0, 0, 0, 0, [], .null),
    (22, .aload_n 0, 1, 3, 0, 0, 0, 0, [], .null),
    (23, .iconst 5, 1, 0, 0, 0, 0, 0, [], .int 5),
    (24, .iaload, 1, 31, 0, 0, 0, 0, [], .null),
    (25, .invokestatic 195, 3, 48, 180, 2, 0, 0, [], .null),
    (28, .if_icmp .ne 7, 3, 21, 35, 1, 0, 0, [], .null),
    (31, .iconst 1, 1, 0, 0, 0, 0, 0, [], .int 1),
    (32, .goto 4, 3, 22, 36, 0, 0, 0, [], .null)]
def kX11_open_31 : List Item := [(31, .iconst 1, 1, 0, 0, 0, 0, 0, [], .int 1),
    (32, .goto 4, 3, 22, 36, 0, 0, 0, [], .null)]
def kX11_open_35 : List Item := [(35, .iconst 0, 1, 0, 0, 0, 0, 0, [], .int 0),
    (36, .ireturn, 1, 58, 0, 0, 0, 0, [], .null)]
def kX11_open_36 : List Item := [(36, .ireturn, 1, 58, 0, 0, 0, 0, [], .null)]
def kX11_open : Code9 := [(0, kX11_open_0), (31, kX11_open_31), (35, kX11_open_35), (36, kX11_open_36)]
theorem rX11_open_0 (sa : Nat → Nat) (E : Nat → Sem) (MC MS : Nat) (HX : Nat → Nat → Option Nat) (Q : Option Value → Mm → Prop) (X : Nat → Mm → Prop) (L : List Slot) (st : List Value) (M : Mm) (nc ns : Nat) : Run sa E MC MS HX Q X kX11_open 0 L st M nc ns = bk sa E MC MS HX (Run sa E MC MS HX Q X kX11_open) Q X kX11_open_0 L st M nc ns := Run_eq sa E MC MS HX Q X _ _ _ _ _ _ _
theorem rX11_open_31 (sa : Nat → Nat) (E : Nat → Sem) (MC MS : Nat) (HX : Nat → Nat → Option Nat) (Q : Option Value → Mm → Prop) (X : Nat → Mm → Prop) (L : List Slot) (st : List Value) (M : Mm) (nc ns : Nat) : Run sa E MC MS HX Q X kX11_open 31 L st M nc ns = bk sa E MC MS HX (Run sa E MC MS HX Q X kX11_open) Q X kX11_open_31 L st M nc ns := Run_eq sa E MC MS HX Q X _ _ _ _ _ _ _
theorem rX11_open_35 (sa : Nat → Nat) (E : Nat → Sem) (MC MS : Nat) (HX : Nat → Nat → Option Nat) (Q : Option Value → Mm → Prop) (X : Nat → Mm → Prop) (L : List Slot) (st : List Value) (M : Mm) (nc ns : Nat) : Run sa E MC MS HX Q X kX11_open 35 L st M nc ns = bk sa E MC MS HX (Run sa E MC MS HX Q X kX11_open) Q X kX11_open_35 L st M nc ns := Run_eq sa E MC MS HX Q X _ _ _ _ _ _ _
theorem rX11_open_36 (sa : Nat → Nat) (E : Nat → Sem) (MC MS : Nat) (HX : Nat → Nat → Option Nat) (Q : Option Value → Mm → Prop) (X : Nat → Mm → Prop) (L : List Slot) (st : List Value) (M : Mm) (nc ns : Nat) : Run sa E MC MS HX Q X kX11_open 36 L st M nc ns = bk sa E MC MS HX (Run sa E MC MS HX Q X kX11_open) Q X kX11_open_36 L st M nc ns := Run_eq sa E MC MS HX Q X _ _ _ _ _ _ _
def kX11_operate_0 : List Item := [(0, .iload_n 0, 1, 1, 0, 0, 0, 0, [], .null),
    (1, .iconst 5, 1, 0, 0, 0, 0, 0, [], .int 5),
    (2, .if_icmp .ne 17, 3, 21, 19, 1, 0, 0, [], .null),
    (5, .lload_n 3, 1, 2, 3, 0, 0, 0, [], .null),
    (6, .lconst 0, 1, 0, 0, 0, 0, 0, [], .long 0),
    (7, .lcmp, 1, 15, 0, 0, 0, 0, [], .null),
    (8, .ifCond .ne 7, 3, 20, 15, 1, 0, 0, [], .null),
    (11, .lconst 0, 1, 0, 0, 0, 0, 0, [], .long 0),
    (12, .goto 6, 3, 22, 18, 0, 0, 0, [], .null)]
def kX11_operate_15 : List Item := [(15, .lload_n 1, 1, 2, 1, 0, 0, 0, [], .null),
    (16, .lload_n 3, 1, 2, 3, 0, 0, 0, [], .null),
    (17, .ldiv, 1, 11, 0, 0, 0, 0, [], .null),
    (18, .lreturn, 1, 57, 0, 0, 0, 0, [], .null)]
def kX11_operate_18 : List Item := [(18, .lreturn, 1, 57, 0, 0, 0, 0, [], .null)]
def kX11_operate_19 : List Item := [(19, .iload_n 0, 1, 1, 0, 0, 0, 0, [], .null),
    (20, .iconst 2, 1, 0, 0, 0, 0, 0, [], .int 2),
    (21, .if_icmp .ne 9, 3, 21, 30, 1, 0, 0, [], .null),
    (24, .lload_n 1, 1, 2, 1, 0, 0, 0, [], .null),
    (25, .lload_n 3, 1, 2, 3, 0, 0, 0, [], .null),
    (26, .ladd, 1, 10, 0, 0, 0, 0, [], .null),
    (27, .goto 17, 3, 22, 44, 0, 0, 0, [], .null)]
def kX11_operate_30 : List Item := [(30, .iload_n 0, 1, 1, 0, 0, 0, 0, [], .null),
    (31, .iconst 3, 1, 0, 0, 0, 0, 0, [], .int 3),
    (32, .if_icmp .ne 9, 3, 21, 41, 1, 0, 0, [], .null),
    (35, .lload_n 1, 1, 2, 1, 0, 0, 0, [], .null),
    (36, .lload_n 3, 1, 2, 3, 0, 0, 0, [], .null),
    (37, .lsub, 1, 10, 0, 1, 0, 0, [], .null),
    (38, .goto 6, 3, 22, 44, 0, 0, 0, [], .null)]
def kX11_operate_41 : List Item := [(41, .lload_n 1, 1, 2, 1, 0, 0, 0, [], .null),
    (42, .lload_n 3, 1, 2, 3, 0, 0, 0, [], .null),
    (43, .lmul, 1, 10, 0, 2, 0, 0, [], .null),
    (44, .invokestatic 191, 3, 48, 148, 1, 0, 0, [], .null),
    (47, .lreturn, 1, 57, 0, 0, 0, 0, [], .null)]
def kX11_operate_44 : List Item := [(44, .invokestatic 191, 3, 48, 148, 1, 0, 0, [], .null),
    (47, .lreturn, 1, 57, 0, 0, 0, 0, [], .null)]
def kX11_operate : Code9 := [(0, kX11_operate_0), (15, kX11_operate_15), (18, kX11_operate_18), (19, kX11_operate_19), (30, kX11_operate_30), (41, kX11_operate_41), (44, kX11_operate_44)]
theorem rX11_operate_0 (sa : Nat → Nat) (E : Nat → Sem) (MC MS : Nat) (HX : Nat → Nat → Option Nat) (Q : Option Value → Mm → Prop) (X : Nat → Mm → Prop) (L : List Slot) (st : List Value) (M : Mm) (nc ns : Nat) : Run sa E MC MS HX Q X kX11_operate 0 L st M nc ns = bk sa E MC MS HX (Run sa E MC MS HX Q X kX11_operate) Q X kX11_operate_0 L st M nc ns := Run_eq sa E MC MS HX Q X _ _ _ _ _ _ _
theorem rX11_operate_15 (sa : Nat → Nat) (E : Nat → Sem) (MC MS : Nat) (HX : Nat → Nat → Option Nat) (Q : Option Value → Mm → Prop) (X : Nat → Mm → Prop) (L : List Slot) (st : List Value) (M : Mm) (nc ns : Nat) : Run sa E MC MS HX Q X kX11_operate 15 L st M nc ns = bk sa E MC MS HX (Run sa E MC MS HX Q X kX11_operate) Q X kX11_operate_15 L st M nc ns := Run_eq sa E MC MS HX Q X _ _ _ _ _ _ _
theorem rX11_operate_18 (sa : Nat → Nat) (E : Nat → Sem) (MC MS : Nat) (HX : Nat → Nat → Option Nat) (Q : Option Value → Mm → Prop) (X : Nat → Mm → Prop) (L : List Slot) (st : List Value) (M : Mm) (nc ns : Nat) : Run sa E MC MS HX Q X kX11_operate 18 L st M nc ns = bk sa E MC MS HX (Run sa E MC MS HX Q X kX11_operate) Q X kX11_operate_18 L st M nc ns := Run_eq sa E MC MS HX Q X _ _ _ _ _ _ _
theorem rX11_operate_19 (sa : Nat → Nat) (E : Nat → Sem) (MC MS : Nat) (HX : Nat → Nat → Option Nat) (Q : Option Value → Mm → Prop) (X : Nat → Mm → Prop) (L : List Slot) (st : List Value) (M : Mm) (nc ns : Nat) : Run sa E MC MS HX Q X kX11_operate 19 L st M nc ns = bk sa E MC MS HX (Run sa E MC MS HX Q X kX11_operate) Q X kX11_operate_19 L st M nc ns := Run_eq sa E MC MS HX Q X _ _ _ _ _ _ _
theorem rX11_operate_30 (sa : Nat → Nat) (E : Nat → Sem) (MC MS : Nat) (HX : Nat → Nat → Option Nat) (Q : Option Value → Mm → Prop) (X : Nat → Mm → Prop) (L : List Slot) (st : List Value) (M : Mm) (nc ns : Nat) : Run sa E MC MS HX Q X kX11_operate 30 L st M nc ns = bk sa E MC MS HX (Run sa E MC MS HX Q X kX11_operate) Q X kX11_operate_30 L st M nc ns := Run_eq sa E MC MS HX Q X _ _ _ _ _ _ _
theorem rX11_operate_41 (sa : Nat → Nat) (E : Nat → Sem) (MC MS : Nat) (HX : Nat → Nat → Option Nat) (Q : Option Value → Mm → Prop) (X : Nat → Mm → Prop) (L : List Slot) (st : List Value) (M : Mm) (nc ns : Nat) : Run sa E MC MS HX Q X kX11_operate 41 L st M nc ns = bk sa E MC MS HX (Run sa E MC MS HX Q X kX11_operate) Q X kX11_operate_41 L st M nc ns := Run_eq sa E MC MS HX Q X _ _ _ _ _ _ _
theorem rX11_operate_44 (sa : Nat → Nat) (E : Nat → Sem) (MC MS : Nat) (HX : Nat → Nat → Option Nat) (Q : Option Value → Mm → Prop) (X : Nat → Mm → Prop) (L : List Slot) (st : List Value) (M : Mm) (nc ns : Nat) : Run sa E MC MS HX Q X kX11_operate 44 L st M nc ns = bk sa E MC MS HX (Run sa E MC MS HX Q X kX11_operate) Q X kX11_operate_44 L st M nc ns := Run_eq sa E MC MS HX Q X _ _ _ _ _ _ _
def kX11_parent_0 : List Item := [(0, .aload_n 0, 1, 3, 0, 0, 0, 0, [], .null),
    (1, .iconst 0, 1, 0, 0, 0, 0, 0, [], .int 0),
    (2, .putfield 42, 3, 27, 11, 0, 0, 0, [], .null),
    (5, .aload_n 0, 1, 3, 0, 0, 0, 0, [], .null),
    (6, .iload_n 1, 1, 1, 1, 0, 0, 0, [], .null),
    (7, .invokevirtual 236, 3, 48, 152, 2, 0, 0, [11], .null),
    (10, .ifCond .eq 7, 3, 20, 17, 0, 0, 0, [], .null),
    (13, .iconst 0, 1, 0, 0, 0, 0, 0, [], .int 0),
    (14, .goto 12, 3, 22, 26, 0, 0, 0, [], .null)]
def kX11_parent_17 : List Item := [(17, .aload_n 0, 1, 3, 0, 0, 0, 0, [], .null),
    (18, .getfield 17, 3, 26, 11, 8, 0, 0, [], .null),
    (21, .iload_n 1, 1, 1, 1, 0, 0, 0, [], .null),
    (22, .invokestatic 133, 3, 48, 113, 1, 0, 0, [], .null),
    (25, .iaload, 1, 31, 0, 0, 0, 0, [], .null),
    (26, .ireturn, 1, 56, 0, 0, 0, 0, [], .null)]
def kX11_parent_26 : List Item := [(26, .ireturn, 1, 56, 0, 0, 0, 0, [], .null)]
def kX11_parent : Code9 := [(0, kX11_parent_0), (17, kX11_parent_17), (26, kX11_parent_26)]
theorem rX11_parent_0 (sa : Nat → Nat) (E : Nat → Sem) (MC MS : Nat) (HX : Nat → Nat → Option Nat) (Q : Option Value → Mm → Prop) (X : Nat → Mm → Prop) (L : List Slot) (st : List Value) (M : Mm) (nc ns : Nat) : Run sa E MC MS HX Q X kX11_parent 0 L st M nc ns = bk sa E MC MS HX (Run sa E MC MS HX Q X kX11_parent) Q X kX11_parent_0 L st M nc ns := Run_eq sa E MC MS HX Q X _ _ _ _ _ _ _
theorem rX11_parent_17 (sa : Nat → Nat) (E : Nat → Sem) (MC MS : Nat) (HX : Nat → Nat → Option Nat) (Q : Option Value → Mm → Prop) (X : Nat → Mm → Prop) (L : List Slot) (st : List Value) (M : Mm) (nc ns : Nat) : Run sa E MC MS HX Q X kX11_parent 17 L st M nc ns = bk sa E MC MS HX (Run sa E MC MS HX Q X kX11_parent) Q X kX11_parent_17 L st M nc ns := Run_eq sa E MC MS HX Q X _ _ _ _ _ _ _
theorem rX11_parent_26 (sa : Nat → Nat) (E : Nat → Sem) (MC MS : Nat) (HX : Nat → Nat → Option Nat) (Q : Option Value → Mm → Prop) (X : Nat → Mm → Prop) (L : List Slot) (st : List Value) (M : Mm) (nc ns : Nat) : Run sa E MC MS HX Q X kX11_parent 26 L st M nc ns = bk sa E MC MS HX (Run sa E MC MS HX Q X kX11_parent) Q X kX11_parent_26 L st M nc ns := Run_eq sa E MC MS HX Q X _ _ _ _ _ _ _
def kX11_patrol_0 : List Item := [(0, .aload_n 0, 1, 3, 0, 0, 0, 0, [], .null),
    (1, .iconst 3, 1, 0, 0, 0, 0, 0, [], .int 3),
    (2, .iaload, 1, 31, 0, 0, 0, 0, [], .null),
    (3, .ifCond .ne 4, 3, 20, 7, 1, 0, 0, [], .null),
    (6, .return_, 1, 55, 0, 0, 0, 0, [], .null)]
def kX11_patrol_7 : List Item := [(7, .aload_n 0, 1, 3, 0, 0, 0, 0, [], .null),
    (8, .iconst 4, 1, 0, 0, 0, 0, 0, [], .int 4),
    (9, .aload_n 0, 1, 3, 0, 0, 0, 0, [], .null),
    (10, .iconst 4, 1, 0, 0, 0, 0, 0, [], .int 4),
    (11, .iaload, 1, 31, 0, 0, 0, 0, [], .null),
    (12, .iconst 1, 1, 0, 0, 0, 0, 0, [], .int 1),
    (13, .iadd, 1, 8, 0, 0, 0, 0, [], .null),
    (14, .aload_n 0, 1, 3, 0, 0, 0, 0, [], .null),
    (15, .iconst 3, 1, 0, 0, 0, 0, 0, [], .int 3),
    (16, .iaload, 1, 31, 0, 0, 0, 0, [], .null),
    (17, .irem, 1, 9, 0, 1, 0, 0, [], .null),
    (18, .iastore, 1, 35, 0, 0, 0, 0, [], .null),
    (19, .iconst 0, 1, 0, 0, 0, 0, 0, [], .int 0),
    (20, .istore_n 1, 1, 4, 1, 0, 0, 0, [], .null),
    (21, .nop, 0, 60, 21, 0, 0, 0, [], .null)]
def kX11_patrol_21 : List Item := [(21, .iload_n 1, 1, 1, 1, 0, 0, 0, [], .null),
    (22, .aload_n 0, 1, 3, 0, 0, 0, 0, [], .null),
    (23, .iconst 1, 1, 0, 0, 0, 0, 0, [], .int 1),
    (24, .iaload, 1, 31, 0, 0, 0, 0, [], .null),
    (25, .if_icmp .ge 58, 3, 21, 83, 3, 0, 0, [], .null),
    (28, .iload_n 1, 1, 1, 1, 0, 0, 0, [], .null),
    (29, .invokestatic 140, 3, 48, 131, 1, 0, 0, [], .null),
    (32, .istore_n 2, 1, 4, 2, 0, 0, 0, [], .null),
    (33, .aload_n 0, 1, 3, 0, 0, 0, 0, [], .null),
    (34, .iload_n 2, 1, 1, 2, 0, 0, 0, [], .null),
    (35, .iaload, 1, 31, 0, 0, 0, 0, [], .null),
    (36, .aload_n 0, 1, 3, 0, 0, 0, 0, [], .null),
    (37, .invokestatic 208, 3, 48, 136, 1, 0, 0, [], .null),
    (40, .if_icmp .ne 37, 3, 21, 77, 1, 0, 0, [], .null),
    (43, .aload_n 0, 1, 3, 0, 0, 0, 0, [], .null),
    (44, .iload_n 2, 1, 1, 2, 0, 0, 0, [], .null),
    (45, .bipush 10, 2, 0, 0, 0, 0, 0, [], .int 10),
    (47, .iadd, 1, 8, 0, 0, 0, 0, [], .null),
    (48, .iaload, 1, 31, 0, 0, 0, 0, [], .null),
    (49, .ifCond .ne 6, 3, 20, 55, 1, 0, 0, [], .null),
    (52, .goto 25, 3, 22, 77, 0, 0, 0, [], .null)]
def kX11_patrol_55 : List Item := [(55, .aload_n 0, 1, 3, 0, 0, 0, 0, [], .null),
    (56, .iload_n 2, 1, 1, 2, 0, 0, 0, [], .null),
    (57, .bipush 10, 2, 0, 0, 0, 0, 0, [], .int 10),
    (59, .iadd, 1, 8, 0, 0, 0, 0, [], .null),
    (60, .iconst 0, 1, 0, 0, 0, 0, 0, [], .int 0),
    (61, .iastore, 1, 35, 0, 0, 0, 0, [], .null),
    (62, .aload_n 0, 1, 3, 0, 0, 0, 0, [], .null),
    (63, .sipush 387, 3, 0, 0, 0, 0, 0, [], .int 387),
    (66, .aload_n 0, 1, 3, 0, 0, 0, 0, [], .null),
    (67, .iload_n 2, 1, 1, 2, 0, 0, 0, [], .null),
    (68, .iconst 1, 1, 0, 0, 0, 0, 0, [], .int 1),
    (69, .iadd, 1, 8, 0, 0, 0, 0, [], .null),
    (70, .iaload, 1, 31, 0, 0, 0, 0, [], .null),
    (71, .iadd, 1, 8, 0, 0, 0, 0, [], .null),
    (72, .dup2, 1, 17, 0, 0, 0, 0, [], .null),
    (73, .iaload, 1, 31, 0, 0, 0, 0, [], .null),
    (74, .iconst 1, 1, 0, 0, 0, 0, 0, [], .int 1),
    (75, .iadd, 1, 8, 0, 0, 0, 0, [], .null),
    (76, .iastore, 1, 35, 0, 0, 0, 0, [], .null),
    (77, .iinc 1 1, 3, 7, 1, 0, 0, 0, [], .int 1),
    (80, .goto (-59), 3, 22, 21, 0, 0, 0, [], .null)]
def kX11_patrol_77 : List Item := [(77, .iinc 1 1, 3, 7, 1, 0, 0, 0, [], .int 1),
    (80, .goto (-59), 3, 22, 21, 0, 0, 0, [], .null)]
def kX11_patrol_83 : List Item := [(83, .return_, 1, 55, 0, 0, 0, 0, [], .null)]
def kX11_patrol : Code9 := [(0, kX11_patrol_0), (7, kX11_patrol_7), (21, kX11_patrol_21), (55, kX11_patrol_55), (77, kX11_patrol_77), (83, kX11_patrol_83)]
theorem rX11_patrol_0 (sa : Nat → Nat) (E : Nat → Sem) (MC MS : Nat) (HX : Nat → Nat → Option Nat) (Q : Option Value → Mm → Prop) (X : Nat → Mm → Prop) (L : List Slot) (st : List Value) (M : Mm) (nc ns : Nat) : Run sa E MC MS HX Q X kX11_patrol 0 L st M nc ns = bk sa E MC MS HX (Run sa E MC MS HX Q X kX11_patrol) Q X kX11_patrol_0 L st M nc ns := Run_eq sa E MC MS HX Q X _ _ _ _ _ _ _
theorem rX11_patrol_7 (sa : Nat → Nat) (E : Nat → Sem) (MC MS : Nat) (HX : Nat → Nat → Option Nat) (Q : Option Value → Mm → Prop) (X : Nat → Mm → Prop) (L : List Slot) (st : List Value) (M : Mm) (nc ns : Nat) : Run sa E MC MS HX Q X kX11_patrol 7 L st M nc ns = bk sa E MC MS HX (Run sa E MC MS HX Q X kX11_patrol) Q X kX11_patrol_7 L st M nc ns := Run_eq sa E MC MS HX Q X _ _ _ _ _ _ _
theorem rX11_patrol_21 (sa : Nat → Nat) (E : Nat → Sem) (MC MS : Nat) (HX : Nat → Nat → Option Nat) (Q : Option Value → Mm → Prop) (X : Nat → Mm → Prop) (L : List Slot) (st : List Value) (M : Mm) (nc ns : Nat) : Run sa E MC MS HX Q X kX11_patrol 21 L st M nc ns = bk sa E MC MS HX (Run sa E MC MS HX Q X kX11_patrol) Q X kX11_patrol_21 L st M nc ns := Run_eq sa E MC MS HX Q X _ _ _ _ _ _ _
theorem rX11_patrol_55 (sa : Nat → Nat) (E : Nat → Sem) (MC MS : Nat) (HX : Nat → Nat → Option Nat) (Q : Option Value → Mm → Prop) (X : Nat → Mm → Prop) (L : List Slot) (st : List Value) (M : Mm) (nc ns : Nat) : Run sa E MC MS HX Q X kX11_patrol 55 L st M nc ns = bk sa E MC MS HX (Run sa E MC MS HX Q X kX11_patrol) Q X kX11_patrol_55 L st M nc ns := Run_eq sa E MC MS HX Q X _ _ _ _ _ _ _
theorem rX11_patrol_77 (sa : Nat → Nat) (E : Nat → Sem) (MC MS : Nat) (HX : Nat → Nat → Option Nat) (Q : Option Value → Mm → Prop) (X : Nat → Mm → Prop) (L : List Slot) (st : List Value) (M : Mm) (nc ns : Nat) : Run sa E MC MS HX Q X kX11_patrol 77 L st M nc ns = bk sa E MC MS HX (Run sa E MC MS HX Q X kX11_patrol) Q X kX11_patrol_77 L st M nc ns := Run_eq sa E MC MS HX Q X _ _ _ _ _ _ _
theorem rX11_patrol_83 (sa : Nat → Nat) (E : Nat → Sem) (MC MS : Nat) (HX : Nat → Nat → Option Nat) (Q : Option Value → Mm → Prop) (X : Nat → Mm → Prop) (L : List Slot) (st : List Value) (M : Mm) (nc ns : Nat) : Run sa E MC MS HX Q X kX11_patrol 83 L st M nc ns = bk sa E MC MS HX (Run sa E MC MS HX Q X kX11_patrol) Q X kX11_patrol_83 L st M nc ns := Run_eq sa E MC MS HX Q X _ _ _ _ _ _ _
def kX11_readCanal_0 : List Item := [(0, .aload_n 0, 1, 3, 0, 0, 0, 0, [], .null),
    (1, .getfield 20, 3, 26, 11, 9, 0, 0, [], .null),
    (4, .iconst 0, 1, 0, 0, 0, 0, 0, [], .int 0),
    (5, .iaload, 1, 31, 0, 0, 0, 0, [], .null),
    (6, .invokestatic 133, 3, 48, 113, 1, 0, 0, [], .null),
    (9, .istore_n 2, 1, 4, 2, 0, 0, 0, [], .null),
    (10, .aload_n 0, 1, 3, 0, 0, 0, 0, [], .null),
    (11, .getfield 20, 3, 26, 11, 9, 0, 0, [], .null),
    (14, .iconst 0, 1, 0, 0, 0, 0, 0, [], .int 0),
    (15, .iaload, 1, 31, 0, 0, 0, 0, [], .null),
    (16, .bipush 16, 2, 0, 0, 0, 0, 0, [], .int 16),
    (18, .if_icmp .ne 10, 3, 21, 28, 1, 0, 0, [], .null),
    (21, .aload_n 0, 1, 3, 0, 0, 0, 0, [], .null),
    (22, .bipush (-4), 2, 0, 0, 0, 0, 0, [], .int (-4)),
    (24, .iload_n 1, 1, 1, 1, 0, 0, 0, [], .null),
    (25, .invokevirtual 85, 3, 48, 166, 3, 0, 0, [11], .null),
    (28, .aload_n 0, 1, 3, 0, 0, 0, 0, [], .null),
    (29, .invokevirtual 68, 3, 48, 146, 1, 0, 0, [11], .null),
    (32, .ifCond .ne 4, 3, 20, 36, 1, 0, 0, [], .null),
    (35, .return_, 1, 55, 0, 0, 0, 0, [], .null)]
def kX11_readCanal_28 : List Item := [(28, .aload_n 0, 1, 3, 0, 0, 0, 0, [], .null),
    (29, .invokevirtual 68, 3, 48, 146, 1, 0, 0, [11], .null),
    (32, .ifCond .ne 4, 3, 20, 36, 1, 0, 0, [], .null),
    (35, .return_, 1, 55, 0, 0, 0, 0, [], .null)]
def kX11_readCanal_36 : List Item := [(36, .aload_n 0, 1, 3, 0, 0, 0, 0, [], .null),
    (37, .getfield 20, 3, 26, 11, 9, 0, 0, [], .null),
    (40, .iload_n 2, 1, 1, 2, 0, 0, 0, [], .null),
    (41, .iconst (-1), 1, 0, 0, 0, 0, 0, [], .int (-1)),
    (42, .iastore, 1, 35, 0, 0, 0, 0, [], .null),
    (43, .aload_n 0, 1, 3, 0, 0, 0, 0, [], .null),
    (44, .getfield 20, 3, 26, 11, 9, 0, 0, [], .null),
    (47, .iconst 0, 1, 0, 0, 0, 0, 0, [], .int 0),
    (48, .iaload, 1, 31, 0, 0, 0, 0, [], .null),
    (49, .ifCond .le 41, 3, 20, 90, 5, 0, 0, [], .null),
    (52, .aload_n 0, 1, 3, 0, 0, 0, 0, [], .null),
    (53, .ldc 136, 2, 52, 1, 0, 0, 0, [], .null),
    (55, .invokevirtual 113, 3, 48, 174, 2, 0, 0, [11], .null),
    (58, .ifCond .ne 13, 3, 20, 71, 1, 0, 0, [], .null),
    (61, .aload_n 0, 1, 3, 0, 0, 0, 0, [], .null),
    (62, .bipush (-2), 2, 0, 0, 0, 0, 0, [], .int (-2)),
    (64, .aload_n 0, 1, 3, 0, 0, 0, 0, [], .null),
    (65, .getfield 51, 3, 24, 11, 4, 0, 0, [], .null),
    (68, .invokevirtual 85, 3, 48, 166, 3, 0, 0, [11], .null),
    (71, .aload_n 0, 1, 3, 0, 0, 0, 0, [], .null),
    (72, .getfield 20, 3, 26, 11, 9, 0, 0, [], .null),
    (75, .iload_n 2, 1, 1, 2, 0, 0, 0, [], .null),
    (76, .aload_n 0, 1, 3, 0, 0, 0, 0, [], .null),
    (77, .iconst 0, 1, 0, 0, 0, 0, 0, [], .int 0),
    (78, .aload_n 0, 1, 3, 0, 0, 0, 0, [], .null),
    (79, .getfield 20, 3, 26, 11, 9, 0, 0, [], .null),
    (82, .iconst 0, 1, 0, 0, 0, 0, 0, [], .int 0),
    (83, .iaload, 1, 31, 0, 0, 0, 0, [], .null),
    (84, .iconst 1, 1, 0, 0, 0, 0, 0, [], .int 1),
    (85, .isub, 1, 8, 0, 1, 0, 0, [], .null),
    (86, .invokevirtual 121, 3, 48, 155, 3, 0, 0, [11], .null),
    (89, .iastore, 1, 35, 0, 0, 0, 0, [], .null),
    (90, .aload_n 0, 1, 3, 0, 0, 0, 0, [], .null),
    (91, .getfield 20, 3, 26, 11, 9, 0, 0, [], .null),
    (94, .iload_n 2, 1, 1, 2, 0, 0, 0, [], .null),
    (95, .iconst 1, 1, 0, 0, 0, 0, 0, [], .int 1),
    (96, .iadd, 1, 8, 0, 0, 0, 0, [], .null),
    (97, .aload_n 0, 1, 3, 0, 0, 0, 0, [], .null),
    (98, .iconst 1, 1, 0, 0, 0, 0, 0, [], .int 1),
    (99, .bipush 6, 2, 0, 0, 0, 0, 0, [], .int 6),
    (101, .invokevirtual 121, 3, 48, 155, 3, 0, 0, [11], .null),
    (104, .iastore, 1, 35, 0, 0, 0, 0, [], .null),
    (105, .aload_n 0, 1, 3, 0, 0, 0, 0, [], .null),
    (106, .getfield 20, 3, 26, 11, 9, 0, 0, [], .null),
    (109, .iload_n 2, 1, 1, 2, 0, 0, 0, [], .null),
    (110, .iconst 2, 1, 0, 0, 0, 0, 0, [], .int 2),
    (111, .iadd, 1, 8, 0, 0, 0, 0, [], .null),
    (112, .aload_n 0, 1, 3, 0, 0, 0, 0, [], .null),
    (113, .iconst 0, 1, 0, 0, 0, 0, 0, [], .int 0),
    (114, .bipush 50, 2, 0, 0, 0, 0, 0, [], .int 50),
    (116, .invokevirtual 121, 3, 48, 155, 3, 0, 0, [11], .null),
    (119, .iastore, 1, 35, 0, 0, 0, 0, [], .null),
    (120, .aload_n 0, 1, 3, 0, 0, 0, 0, [], .null),
    (121, .getfield 20, 3, 26, 11, 9, 0, 0, [], .null),
    (124, .iload_n 2, 1, 1, 2, 0, 0, 0, [], .null),
    (125, .iconst 3, 1, 0, 0, 0, 0, 0, [], .int 3),
    (126, .iadd, 1, 8, 0, 0, 0, 0, [], .null),
    (127, .aload_n 0, 1, 3, 0, 0, 0, 0, [], .null),
    (128, .iconst 1, 1, 0, 0, 0, 0, 0, [], .int 1),
    (129, .sipush 9999, 3, 0, 0, 0, 0, 0, [], .int 9999),
    (132, .invokevirtual 121, 3, 48, 155, 3, 0, 0, [11], .null),
    (135, .iastore, 1, 35, 0, 0, 0, 0, [], .null),
    (136, .aload_n 0, 1, 3, 0, 0, 0, 0, [], .null),
    (137, .getfield 20, 3, 26, 11, 9, 0, 0, [], .null),
    (140, .iload_n 2, 1, 1, 2, 0, 0, 0, [], .null),
    (141, .iconst 4, 1, 0, 0, 0, 0, 0, [], .int 4),
    (142, .iadd, 1, 8, 0, 0, 0, 0, [], .null),
    (143, .aload_n 0, 1, 3, 0, 0, 0, 0, [], .null),
    (144, .ldc 138, 2, 52, 2, 0, 0, 0, [], .null),
    (146, .invokevirtual 113, 3, 48, 174, 2, 0, 0, [11], .null),
    (149, .ifCond .eq 13, 3, 20, 162, 0, 0, 0, [], .null),
    (152, .aload_n 0, 1, 3, 0, 0, 0, 0, [], .null),
    (153, .iconst 0, 1, 0, 0, 0, 0, 0, [], .int 0),
    (154, .bipush 99, 2, 0, 0, 0, 0, 0, [], .int 99),
    (156, .invokevirtual 121, 3, 48, 155, 3, 0, 0, [11], .null),
    (159, .goto 4, 3, 22, 163, 0, 0, 0, [], .null)]
def kX11_readCanal_71 : List Item := [(71, .aload_n 0, 1, 3, 0, 0, 0, 0, [], .null),
    (72, .getfield 20, 3, 26, 11, 9, 0, 0, [], .null),
    (75, .iload_n 2, 1, 1, 2, 0, 0, 0, [], .null),
    (76, .aload_n 0, 1, 3, 0, 0, 0, 0, [], .null),
    (77, .iconst 0, 1, 0, 0, 0, 0, 0, [], .int 0),
    (78, .aload_n 0, 1, 3, 0, 0, 0, 0, [], .null),
    (79, .getfield 20, 3, 26, 11, 9, 0, 0, [], .null),
    (82, .iconst 0, 1, 0, 0, 0, 0, 0, [], .int 0),
    (83, .iaload, 1, 31, 0, 0, 0, 0, [], .null),
    (84, .iconst 1, 1, 0, 0, 0, 0, 0, [], .int 1),
    (85, .isub, 1, 8, 0, 1, 0, 0, [], .null),
    (86, .invokevirtual 121, 3, 48, 155, 3, 0, 0, [11], .null),
    (89, .iastore, 1, 35, 0, 0, 0, 0, [], .null),
    (90, .aload_n 0, 1, 3, 0, 0, 0, 0, [], .null),
    (91, .getfield 20, 3, 26, 11, 9, 0, 0, [], .null),
    (94, .iload_n 2, 1, 1, 2, 0, 0, 0, [], .null),
    (95, .iconst 1, 1, 0, 0, 0, 0, 0, [], .int 1),
    (96, .iadd, 1, 8, 0, 0, 0, 0, [], .null),
    (97, .aload_n 0, 1, 3, 0, 0, 0, 0, [], .null),
    (98, .iconst 1, 1, 0, 0, 0, 0, 0, [], .int 1),
    (99, .bipush 6, 2, 0, 0, 0, 0, 0, [], .int 6),
    (101, .invokevirtual 121, 3, 48, 155, 3, 0, 0, [11], .null),
    (104, .iastore, 1, 35, 0, 0, 0, 0, [], .null),
    (105, .aload_n 0, 1, 3, 0, 0, 0, 0, [], .null),
    (106, .getfield 20, 3, 26, 11, 9, 0, 0, [], .null),
    (109, .iload_n 2, 1, 1, 2, 0, 0, 0, [], .null),
    (110, .iconst 2, 1, 0, 0, 0, 0, 0, [], .int 2),
    (111, .iadd, 1, 8, 0, 0, 0, 0, [], .null),
    (112, .aload_n 0, 1, 3, 0, 0, 0, 0, [], .null),
    (113, .iconst 0, 1, 0, 0, 0, 0, 0, [], .int 0),
    (114, .bipush 50, 2, 0, 0, 0, 0, 0, [], .int 50),
    (116, .invokevirtual 121, 3, 48, 155, 3, 0, 0, [11], .null),
    (119, .iastore, 1, 35, 0, 0, 0, 0, [], .null),
    (120, .aload_n 0, 1, 3, 0, 0, 0, 0, [], .null),
    (121, .getfield 20, 3, 26, 11, 9, 0, 0, [], .null),
    (124, .iload_n 2, 1, 1, 2, 0, 0, 0, [], .null),
    (125, .iconst 3, 1, 0, 0, 0, 0, 0, [], .int 3),
    (126, .iadd, 1, 8, 0, 0, 0, 0, [], .null),
    (127, .aload_n 0, 1, 3, 0, 0, 0, 0, [], .null),
    (128, .iconst 1, 1, 0, 0, 0, 0, 0, [], .int 1),
    (129, .sipush 9999, 3, 0, 0, 0, 0, 0, [], .int 9999),
    (132, .invokevirtual 121, 3, 48, 155, 3, 0, 0, [11], .null),
    (135, .iastore, 1, 35, 0, 0, 0, 0, [], .null),
    (136, .aload_n 0, 1, 3, 0, 0, 0, 0, [], .null),
    (137, .getfield 20, 3, 26, 11, 9, 0, 0, [], .null),
    (140, .iload_n 2, 1, 1, 2, 0, 0, 0, [], .null),
    (141, .iconst 4, 1, 0, 0, 0, 0, 0, [], .int 4),
    (142, .iadd, 1, 8, 0, 0, 0, 0, [], .null),
    (143, .aload_n 0, 1, 3, 0, 0, 0, 0, [], .null),
    (144, .ldc 138, 2, 52, 2, 0, 0, 0, [], .null),
    (146, .invokevirtual 113, 3, 48, 174, 2, 0, 0, [11], .null),
    (149, .ifCond .eq 13, 3, 20, 162, 0, 0, 0, [], .null),
    (152, .aload_n 0, 1, 3, 0, 0, 0, 0, [], .null),
    (153, .iconst 0, 1, 0, 0, 0, 0, 0, [], .int 0),
    (154, .bipush 99, 2, 0, 0, 0, 0, 0, [], .int 99),
    (156, .invokevirtual 121, 3, 48, 155, 3, 0, 0, [11], .null),
    (159, .goto 4, 3, 22, 163, 0, 0, 0, [], .null)]
def kX11_readCanal_90 : List Item := [(90, .aload_n 0, 1, 3, 0, 0, 0, 0, [], .null),
    (91, .getfield 20, 3, 26, 11, 9, 0, 0, [], .null),
    (94, .iload_n 2, 1, 1, 2, 0, 0, 0, [], .null),
    (95, .iconst 1, 1, 0, 0, 0, 0, 0, [], .int 1),
    (96, .iadd, 1, 8, 0, 0, 0, 0, [], .null),
    (97, .aload_n 0, 1, 3, 0, 0, 0, 0, [], .null),
    (98, .iconst 1, 1, 0, 0, 0, 0, 0, [], .int 1),
    (99, .bipush 6, 2, 0, 0, 0, 0, 0, [], .int 6),
    (101, .invokevirtual 121, 3, 48, 155, 3, 0, 0, [11], .null),
    (104, .iastore, 1, 35, 0, 0, 0, 0, [], .null),
    (105, .aload_n 0, 1, 3, 0, 0, 0, 0, [], .null),
    (106, .getfield 20, 3, 26, 11, 9, 0, 0, [], .null),
    (109, .iload_n 2, 1, 1, 2, 0, 0, 0, [], .null),
    (110, .iconst 2, 1, 0, 0, 0, 0, 0, [], .int 2),
    (111, .iadd, 1, 8, 0, 0, 0, 0, [], .null),
    (112, .aload_n 0, 1, 3, 0, 0, 0, 0, [], .null),
    (113, .iconst 0, 1, 0, 0, 0, 0, 0, [], .int 0),
    (114, .bipush 50, 2, 0, 0, 0, 0, 0, [], .int 50),
    (116, .invokevirtual 121, 3, 48, 155, 3, 0, 0, [11], .null),
    (119, .iastore, 1, 35, 0, 0, 0, 0, [], .null),
    (120, .aload_n 0, 1, 3, 0, 0, 0, 0, [], .null),
    (121, .getfield 20, 3, 26, 11, 9, 0, 0, [], .null),
    (124, .iload_n 2, 1, 1, 2, 0, 0, 0, [], .null),
    (125, .iconst 3, 1, 0, 0, 0, 0, 0, [], .int 3),
    (126, .iadd, 1, 8, 0, 0, 0, 0, [], .null),
    (127, .aload_n 0, 1, 3, 0, 0, 0, 0, [], .null),
    (128, .iconst 1, 1, 0, 0, 0, 0, 0, [], .int 1),
    (129, .sipush 9999, 3, 0, 0, 0, 0, 0, [], .int 9999),
    (132, .invokevirtual 121, 3, 48, 155, 3, 0, 0, [11], .null),
    (135, .iastore, 1, 35, 0, 0, 0, 0, [], .null),
    (136, .aload_n 0, 1, 3, 0, 0, 0, 0, [], .null),
    (137, .getfield 20, 3, 26, 11, 9, 0, 0, [], .null),
    (140, .iload_n 2, 1, 1, 2, 0, 0, 0, [], .null),
    (141, .iconst 4, 1, 0, 0, 0, 0, 0, [], .int 4),
    (142, .iadd, 1, 8, 0, 0, 0, 0, [], .null),
    (143, .aload_n 0, 1, 3, 0, 0, 0, 0, [], .null),
    (144, .ldc 138, 2, 52, 2, 0, 0, 0, [], .null),
    (146, .invokevirtual 113, 3, 48, 174, 2, 0, 0, [11], .null),
    (149, .ifCond .eq 13, 3, 20, 162, 0, 0, 0, [], .null),
    (152, .aload_n 0, 1, 3, 0, 0, 0, 0, [], .null),
    (153, .iconst 0, 1, 0, 0, 0, 0, 0, [], .int 0),
    (154, .bipush 99, 2, 0, 0, 0, 0, 0, [], .int 99),
    (156, .invokevirtual 121, 3, 48, 155, 3, 0, 0, [11], .null),
    (159, .goto 4, 3, 22, 163, 0, 0, 0, [], .null)]
def kX11_readCanal_162 : List Item := [(162, .iconst 1, 1, 0, 0, 0, 0, 0, [], .int 1),
    (163, .iastore, 1, 35, 0, 0, 0, 0, [], .null),
    (164, .aload_n 0, 1, 3, 0, 0, 0, 0, [], .null),
    (165, .getfield 20, 3, 26, 11, 9, 0, 0, [], .null),
    (168, .iconst 0, 1, 0, 0, 0, 0, 0, [], .int 0),
    (169, .dup2, 1, 17, 0, 0, 0, 0, [], .null),
    (170, .iaload, 1, 31, 0, 0, 0, 0, [], .null),
    (171, .iconst 1, 1, 0, 0, 0, 0, 0, [], .int 1),
    (172, .iadd, 1, 8, 0, 0, 0, 0, [], .null),
    (173, .iastore, 1, 35, 0, 0, 0, 0, [], .null),
    (174, .return_, 1, 55, 0, 0, 0, 0, [], .null)]
def kX11_readCanal_163 : List Item := [(163, .iastore, 1, 35, 0, 0, 0, 0, [], .null),
    (164, .aload_n 0, 1, 3, 0, 0, 0, 0, [], .null),
    (165, .getfield 20, 3, 26, 11, 9, 0, 0, [], .null),
    (168, .iconst 0, 1, 0, 0, 0, 0, 0, [], .int 0),
    (169, .dup2, 1, 17, 0, 0, 0, 0, [], .null),
    (170, .iaload, 1, 31, 0, 0, 0, 0, [], .null),
    (171, .iconst 1, 1, 0, 0, 0, 0, 0, [], .int 1),
    (172, .iadd, 1, 8, 0, 0, 0, 0, [], .null),
    (173, .iastore, 1, 35, 0, 0, 0, 0, [], .null),
    (174, .return_, 1, 55, 0, 0, 0, 0, [], .null)]
def kX11_readCanal : Code9 := [(0, kX11_readCanal_0), (28, kX11_readCanal_28), (36, kX11_readCanal_36), (71, kX11_readCanal_71), (90, kX11_readCanal_90), (162, kX11_readCanal_162), (163, kX11_readCanal_163)]
theorem rX11_readCanal_0 (sa : Nat → Nat) (E : Nat → Sem) (MC MS : Nat) (HX : Nat → Nat → Option Nat) (Q : Option Value → Mm → Prop) (X : Nat → Mm → Prop) (L : List Slot) (st : List Value) (M : Mm) (nc ns : Nat) : Run sa E MC MS HX Q X kX11_readCanal 0 L st M nc ns = bk sa E MC MS HX (Run sa E MC MS HX Q X kX11_readCanal) Q X kX11_readCanal_0 L st M nc ns := Run_eq sa E MC MS HX Q X _ _ _ _ _ _ _
theorem rX11_readCanal_28 (sa : Nat → Nat) (E : Nat → Sem) (MC MS : Nat) (HX : Nat → Nat → Option Nat) (Q : Option Value → Mm → Prop) (X : Nat → Mm → Prop) (L : List Slot) (st : List Value) (M : Mm) (nc ns : Nat) : Run sa E MC MS HX Q X kX11_readCanal 28 L st M nc ns = bk sa E MC MS HX (Run sa E MC MS HX Q X kX11_readCanal) Q X kX11_readCanal_28 L st M nc ns := Run_eq sa E MC MS HX Q X _ _ _ _ _ _ _
theorem rX11_readCanal_36 (sa : Nat → Nat) (E : Nat → Sem) (MC MS : Nat) (HX : Nat → Nat → Option Nat) (Q : Option Value → Mm → Prop) (X : Nat → Mm → Prop) (L : List Slot) (st : List Value) (M : Mm) (nc ns : Nat) : Run sa E MC MS HX Q X kX11_readCanal 36 L st M nc ns = bk sa E MC MS HX (Run sa E MC MS HX Q X kX11_readCanal) Q X kX11_readCanal_36 L st M nc ns := Run_eq sa E MC MS HX Q X _ _ _ _ _ _ _
theorem rX11_readCanal_71 (sa : Nat → Nat) (E : Nat → Sem) (MC MS : Nat) (HX : Nat → Nat → Option Nat) (Q : Option Value → Mm → Prop) (X : Nat → Mm → Prop) (L : List Slot) (st : List Value) (M : Mm) (nc ns : Nat) : Run sa E MC MS HX Q X kX11_readCanal 71 L st M nc ns = bk sa E MC MS HX (Run sa E MC MS HX Q X kX11_readCanal) Q X kX11_readCanal_71 L st M nc ns := Run_eq sa E MC MS HX Q X _ _ _ _ _ _ _
theorem rX11_readCanal_90 (sa : Nat → Nat) (E : Nat → Sem) (MC MS : Nat) (HX : Nat → Nat → Option Nat) (Q : Option Value → Mm → Prop) (X : Nat → Mm → Prop) (L : List Slot) (st : List Value) (M : Mm) (nc ns : Nat) : Run sa E MC MS HX Q X kX11_readCanal 90 L st M nc ns = bk sa E MC MS HX (Run sa E MC MS HX Q X kX11_readCanal) Q X kX11_readCanal_90 L st M nc ns := Run_eq sa E MC MS HX Q X _ _ _ _ _ _ _
theorem rX11_readCanal_162 (sa : Nat → Nat) (E : Nat → Sem) (MC MS : Nat) (HX : Nat → Nat → Option Nat) (Q : Option Value → Mm → Prop) (X : Nat → Mm → Prop) (L : List Slot) (st : List Value) (M : Mm) (nc ns : Nat) : Run sa E MC MS HX Q X kX11_readCanal 162 L st M nc ns = bk sa E MC MS HX (Run sa E MC MS HX Q X kX11_readCanal) Q X kX11_readCanal_162 L st M nc ns := Run_eq sa E MC MS HX Q X _ _ _ _ _ _ _
theorem rX11_readCanal_163 (sa : Nat → Nat) (E : Nat → Sem) (MC MS : Nat) (HX : Nat → Nat → Option Nat) (Q : Option Value → Mm → Prop) (X : Nat → Mm → Prop) (L : List Slot) (st : List Value) (M : Mm) (nc ns : Nat) : Run sa E MC MS HX Q X kX11_readCanal 163 L st M nc ns = bk sa E MC MS HX (Run sa E MC MS HX Q X kX11_readCanal) Q X kX11_readCanal_163 L st M nc ns := Run_eq sa E MC MS HX Q X _ _ _ _ _ _ _
def kX11_readField_0 : List Item := [(0, .aload_n 0, 1, 3, 0, 0, 0, 0, [], .null),
    (1, .getfield 20, 3, 26, 11, 9, 0, 0, [], .null),
    (4, .iconst 1, 1, 0, 0, 0, 0, 0, [], .int 1),
    (5, .iaload, 1, 31, 0, 0, 0, 0, [], .null),
    (6, .invokestatic 140, 3, 48, 131, 1, 0, 0, [], .null),
    (9, .istore_n 2, 1, 4, 2, 0, 0, 0, [], .null),
    (10, .aload_n 0, 1, 3, 0, 0, 0, 0, [], .null),
    (11, .getfield 20, 3, 26, 11, 9, 0, 0, [], .null),
    (14, .iconst 1, 1, 0, 0, 0, 0, 0, [], .int 1),
    (15, .iaload, 1, 31, 0, 0, 0, 0, [], .null),
    (16, .bipush 12, 2, 0, 0, 0, 0, 0, [], .int 12),
    (18, .if_icmp .ne 10, 3, 21, 28, 1, 0, 0, [], .null),
    (21, .aload_n 0, 1, 3, 0, 0, 0, 0, [], .null),
    (22, .bipush (-4), 2, 0, 0, 0, 0, 0, [], .int (-4)),
    (24, .iload_n 1, 1, 1, 1, 0, 0, 0, [], .null),
    (25, .invokevirtual 85, 3, 48, 166, 3, 0, 0, [11], .null),
    (28, .aload_n 0, 1, 3, 0, 0, 0, 0, [], .null),
    (29, .invokevirtual 68, 3, 48, 146, 1, 0, 0, [11], .null),
    (32, .ifCond .ne 4, 3, 20, 36, 1, 0, 0, [], .null),
    (35, .return_, 1, 55, 0, 0, 0, 0, [], .null)]
def kX11_readField_28 : List Item := [(28, .aload_n 0, 1, 3, 0, 0, 0, 0, [], .null),
    (29, .invokevirtual 68, 3, 48, 146, 1, 0, 0, [11], .null),
    (32, .ifCond .ne 4, 3, 20, 36, 1, 0, 0, [], .null),
    (35, .return_, 1, 55, 0, 0, 0, 0, [], .null)]
def kX11_readField_36 : List Item := [(36, .aload_n 0, 1, 3, 0, 0, 0, 0, [], .null),
    (37, .getfield 20, 3, 26, 11, 9, 0, 0, [], .null),
    (40, .iload_n 2, 1, 1, 2, 0, 0, 0, [], .null),
    (41, .aload_n 0, 1, 3, 0, 0, 0, 0, [], .null),
    (42, .iconst 0, 1, 0, 0, 0, 0, 0, [], .int 0),
    (43, .aload_n 0, 1, 3, 0, 0, 0, 0, [], .null),
    (44, .getfield 20, 3, 26, 11, 9, 0, 0, [], .null),
    (47, .iconst 0, 1, 0, 0, 0, 0, 0, [], .int 0),
    (48, .iaload, 1, 31, 0, 0, 0, 0, [], .null),
    (49, .iconst 1, 1, 0, 0, 0, 0, 0, [], .int 1),
    (50, .isub, 1, 8, 0, 1, 0, 0, [], .null),
    (51, .invokevirtual 121, 3, 48, 155, 3, 0, 0, [11], .null),
    (54, .iastore, 1, 35, 0, 0, 0, 0, [], .null),
    (55, .aload_n 0, 1, 3, 0, 0, 0, 0, [], .null),
    (56, .getfield 20, 3, 26, 11, 9, 0, 0, [], .null),
    (59, .iload_n 2, 1, 1, 2, 0, 0, 0, [], .null),
    (60, .iconst 1, 1, 0, 0, 0, 0, 0, [], .int 1),
    (61, .iadd, 1, 8, 0, 0, 0, 0, [], .null),
    (62, .aload_n 0, 1, 3, 0, 0, 0, 0, [], .null),
    (63, .iconst 0, 1, 0, 0, 0, 0, 0, [], .int 0),
    (64, .iconst 5, 1, 0, 0, 0, 0, 0, [], .int 5),
    (65, .invokevirtual 121, 3, 48, 155, 3, 0, 0, [11], .null),
    (68, .iastore, 1, 35, 0, 0, 0, 0, [], .null),
    (69, .aload_n 0, 1, 3, 0, 0, 0, 0, [], .null),
    (70, .getfield 20, 3, 26, 11, 9, 0, 0, [], .null),
    (73, .iload_n 2, 1, 1, 2, 0, 0, 0, [], .null),
    (74, .iconst 2, 1, 0, 0, 0, 0, 0, [], .int 2),
    (75, .iadd, 1, 8, 0, 0, 0, 0, [], .null),
    (76, .aload_n 0, 1, 3, 0, 0, 0, 0, [], .null),
    (77, .iconst 1, 1, 0, 0, 0, 0, 0, [], .int 1),
    (78, .sipush 999, 3, 0, 0, 0, 0, 0, [], .int 999),
    (81, .invokevirtual 121, 3, 48, 155, 3, 0, 0, [11], .null),
    (84, .iastore, 1, 35, 0, 0, 0, 0, [], .null),
    (85, .aload_n 0, 1, 3, 0, 0, 0, 0, [], .null),
    (86, .getfield 20, 3, 26, 11, 9, 0, 0, [], .null),
    (89, .iload_n 2, 1, 1, 2, 0, 0, 0, [], .null),
    (90, .iconst 3, 1, 0, 0, 0, 0, 0, [], .int 3),
    (91, .iadd, 1, 8, 0, 0, 0, 0, [], .null),
    (92, .aload_n 0, 1, 3, 0, 0, 0, 0, [], .null),
    (93, .iconst 0, 1, 0, 0, 0, 0, 0, [], .int 0),
    (94, .sipush 9999, 3, 0, 0, 0, 0, 0, [], .int 9999),
    (97, .invokevirtual 121, 3, 48, 155, 3, 0, 0, [11], .null),
    (100, .iastore, 1, 35, 0, 0, 0, 0, [], .null),
    (101, .aload_n 0, 1, 3, 0, 0, 0, 0, [], .null),
    (102, .getfield 20, 3, 26, 11, 9, 0, 0, [], .null),
    (105, .iload_n 2, 1, 1, 2, 0, 0, 0, [], .null),
    (106, .iconst 4, 1, 0, 0, 0, 0, 0, [], .int 4),
    (107, .iadd, 1, 8, 0, 0, 0, 0, [], .null),
    (108, .aload_n 0, 1, 3, 0, 0, 0, 0, [], .null),
    (109, .iconst 1, 1, 0, 0, 0, 0, 0, [], .int 1),
    (110, .sipush 9999, 3, 0, 0, 0, 0, 0, [], .int 9999),
    (113, .invokevirtual 121, 3, 48, 155, 3, 0, 0, [11], .null),
    (116, .iastore, 1, 35, 0, 0, 0, 0, [], .null),
    (117, .aload_n 0, 1, 3, 0, 0, 0, 0, [], .null),
    (118, .getfield 20, 3, 26, 11, 9, 0, 0, [], .null),
    (121, .iload_n 2, 1, 1, 2, 0, 0, 0, [], .null),
    (122, .iconst 5, 1, 0, 0, 0, 0, 0, [], .int 5),
    (123, .iadd, 1, 8, 0, 0, 0, 0, [], .null),
    (124, .aload_n 0, 1, 3, 0, 0, 0, 0, [], .null),
    (125, .iconst 0, 1, 0, 0, 0, 0, 0, [], .int 0),
    (126, .bipush 99, 2, 0, 0, 0, 0, 0, [], .int 99),
    (128, .invokevirtual 121, 3, 48, 155, 3, 0, 0, [11], .null),
    (131, .iastore, 1, 35, 0, 0, 0, 0, [], .null),
    (132, .aload_n 0, 1, 3, 0, 0, 0, 0, [], .null),
    (133, .getfield 20, 3, 26, 11, 9, 0, 0, [], .null),
    (136, .iload_n 2, 1, 1, 2, 0, 0, 0, [], .null),
    (137, .bipush 6, 2, 0, 0, 0, 0, 0, [], .int 6),
    (139, .iadd, 1, 8, 0, 0, 0, 0, [], .null),
    (140, .aload_n 0, 1, 3, 0, 0, 0, 0, [], .null),
    (141, .ldc 143, 2, 52, 4, 0, 0, 0, [], .null),
    (143, .invokevirtual 113, 3, 48, 174, 2, 0, 0, [11], .null),
    (146, .ifCond .eq 19, 3, 20, 165, 0, 0, 0, [], .null),
    (149, .aload_n 0, 1, 3, 0, 0, 0, 0, [], .null),
    (150, .iconst 0, 1, 0, 0, 0, 0, 0, [], .int 0),
    (151, .aload_n 0, 1, 3, 0, 0, 0, 0, [], .null),
    (152, .getfield 20, 3, 26, 11, 9, 0, 0, [], .null),
    (155, .iconst 1, 1, 0, 0, 0, 0, 0, [], .int 1),
    (156, .iaload, 1, 31, 0, 0, 0, 0, [], .null),
    (157, .iconst 1, 1, 0, 0, 0, 0, 0, [], .int 1),
    (158, .isub, 1, 8, 0, 1, 0, 0, [], .null),
    (159, .invokevirtual 121, 3, 48, 155, 3, 0, 0, [11], .null),
    (162, .goto 4, 3, 22, 166, 0, 0, 0, [], .null)]
def kX11_readField_165 : List Item := [(165, .iconst (-1), 1, 0, 0, 0, 0, 0, [], .int (-1)),
    (166, .iastore, 1, 35, 0, 0, 0, 0, [], .null),
    (167, .aload_n 0, 1, 3, 0, 0, 0, 0, [], .null),
    (168, .getfield 20, 3, 26, 11, 9, 0, 0, [], .null),
    (171, .iconst 1, 1, 0, 0, 0, 0, 0, [], .int 1),
    (172, .dup2, 1, 17, 0, 0, 0, 0, [], .null),
    (173, .iaload, 1, 31, 0, 0, 0, 0, [], .null),
    (174, .iconst 1, 1, 0, 0, 0, 0, 0, [], .int 1),
    (175, .iadd, 1, 8, 0, 0, 0, 0, [], .null),
    (176, .iastore, 1, 35, 0, 0, 0, 0, [], .null),
    (177, .return_, 1, 55, 0, 0, 0, 0, [], .null)]
def kX11_readField_166 : List Item := [(166, .iastore, 1, 35, 0, 0, 0, 0, [], .null),
    (167, .aload_n 0, 1, 3, 0, 0, 0, 0, [], .null),
    (168, .getfield 20, 3, 26, 11, 9, 0, 0, [], .null),
    (171, .iconst 1, 1, 0, 0, 0, 0, 0, [], .int 1),
    (172, .dup2, 1, 17, 0, 0, 0, 0, [], .null),
    (173, .iaload, 1, 31, 0, 0, 0, 0, [], .null),
    (174, .iconst 1, 1, 0, 0, 0, 0, 0, [], .int 1),
    (175, .iadd, 1, 8, 0, 0, 0, 0, [], .null),
    (176, .iastore, 1, 35, 0, 0, 0, 0, [], .null),
    (177, .return_, 1, 55, 0, 0, 0, 0, [], .null)]
def kX11_readField : Code9 := [(0, kX11_readField_0), (28, kX11_readField_28), (36, kX11_readField_36), (165, kX11_readField_165), (166, kX11_readField_166)]
theorem rX11_readField_0 (sa : Nat → Nat) (E : Nat → Sem) (MC MS : Nat) (HX : Nat → Nat → Option Nat) (Q : Option Value → Mm → Prop) (X : Nat → Mm → Prop) (L : List Slot) (st : List Value) (M : Mm) (nc ns : Nat) : Run sa E MC MS HX Q X kX11_readField 0 L st M nc ns = bk sa E MC MS HX (Run sa E MC MS HX Q X kX11_readField) Q X kX11_readField_0 L st M nc ns := Run_eq sa E MC MS HX Q X _ _ _ _ _ _ _
theorem rX11_readField_28 (sa : Nat → Nat) (E : Nat → Sem) (MC MS : Nat) (HX : Nat → Nat → Option Nat) (Q : Option Value → Mm → Prop) (X : Nat → Mm → Prop) (L : List Slot) (st : List Value) (M : Mm) (nc ns : Nat) : Run sa E MC MS HX Q X kX11_readField 28 L st M nc ns = bk sa E MC MS HX (Run sa E MC MS HX Q X kX11_readField) Q X kX11_readField_28 L st M nc ns := Run_eq sa E MC MS HX Q X _ _ _ _ _ _ _
theorem rX11_readField_36 (sa : Nat → Nat) (E : Nat → Sem) (MC MS : Nat) (HX : Nat → Nat → Option Nat) (Q : Option Value → Mm → Prop) (X : Nat → Mm → Prop) (L : List Slot) (st : List Value) (M : Mm) (nc ns : Nat) : Run sa E MC MS HX Q X kX11_readField 36 L st M nc ns = bk sa E MC MS HX (Run sa E MC MS HX Q X kX11_readField) Q X kX11_readField_36 L st M nc ns := Run_eq sa E MC MS HX Q X _ _ _ _ _ _ _
theorem rX11_readField_165 (sa : Nat → Nat) (E : Nat → Sem) (MC MS : Nat) (HX : Nat → Nat → Option Nat) (Q : Option Value → Mm → Prop) (X : Nat → Mm → Prop) (L : List Slot) (st : List Value) (M : Mm) (nc ns : Nat) : Run sa E MC MS HX Q X kX11_readField 165 L st M nc ns = bk sa E MC MS HX (Run sa E MC MS HX Q X kX11_readField) Q X kX11_readField_165 L st M nc ns := Run_eq sa E MC MS HX Q X _ _ _ _ _ _ _
theorem rX11_readField_166 (sa : Nat → Nat) (E : Nat → Sem) (MC MS : Nat) (HX : Nat → Nat → Option Nat) (Q : Option Value → Mm → Prop) (X : Nat → Mm → Prop) (L : List Slot) (st : List Value) (M : Mm) (nc ns : Nat) : Run sa E MC MS HX Q X kX11_readField 166 L st M nc ns = bk sa E MC MS HX (Run sa E MC MS HX Q X kX11_readField) Q X kX11_readField_166 L st M nc ns := Run_eq sa E MC MS HX Q X _ _ _ _ _ _ _
def kX11_readGuard_0 : List Item := [(0, .aload_n 0, 1, 3, 0, 0, 0, 0, [], .null),
    (1, .getfield 20, 3, 26, 11, 9, 0, 0, [], .null),
    (4, .bipush 12, 2, 0, 0, 0, 0, 0, [], .int 12),
    (6, .iaload, 1, 31, 0, 0, 0, 0, [], .null),
    (7, .iconst 1, 1, 0, 0, 0, 0, 0, [], .int 1),
    (8, .if_icmp .ne 10, 3, 21, 18, 1, 0, 0, [], .null),
    (11, .aload_n 0, 1, 3, 0, 0, 0, 0, [], .null),
    (12, .bipush (-2), 2, 0, 0, 0, 0, 0, [], .int (-2)),
    (14, .iload_n 1, 1, 1, 1, 0, 0, 0, [], .null),
    (15, .invokevirtual 85, 3, 48, 166, 3, 0, 0, [11], .null),
    (18, .aload_n 0, 1, 3, 0, 0, 0, 0, [], .null),
    (19, .getfield 20, 3, 26, 11, 9, 0, 0, [], .null),
    (22, .bipush 12, 2, 0, 0, 0, 0, 0, [], .int 12),
    (24, .iconst 1, 1, 0, 0, 0, 0, 0, [], .int 1),
    (25, .iastore, 1, 35, 0, 0, 0, 0, [], .null),
    (26, .nop, 0, 60, 26, 0, 0, 0, [], .null)]
def kX11_readGuard_18 : List Item := [(18, .aload_n 0, 1, 3, 0, 0, 0, 0, [], .null),
    (19, .getfield 20, 3, 26, 11, 9, 0, 0, [], .null),
    (22, .bipush 12, 2, 0, 0, 0, 0, 0, [], .int 12),
    (24, .iconst 1, 1, 0, 0, 0, 0, 0, [], .int 1),
    (25, .iastore, 1, 35, 0, 0, 0, 0, [], .null),
    (26, .nop, 0, 60, 26, 0, 0, 0, [], .null)]
def kX11_readGuard_26 : List Item := [(26, .aload_n 0, 1, 3, 0, 0, 0, 0, [], .null),
    (27, .iconst 0, 1, 0, 0, 0, 0, 0, [], .int 0),
    (28, .aload_n 0, 1, 3, 0, 0, 0, 0, [], .null),
    (29, .getfield 20, 3, 26, 11, 9, 0, 0, [], .null),
    (32, .iconst 0, 1, 0, 0, 0, 0, 0, [], .int 0),
    (33, .iaload, 1, 31, 0, 0, 0, 0, [], .null),
    (34, .iconst 1, 1, 0, 0, 0, 0, 0, [], .int 1),
    (35, .isub, 1, 8, 0, 1, 0, 0, [], .null),
    (36, .invokevirtual 121, 3, 48, 155, 3, 0, 0, [11], .null),
    (39, .istore_n 2, 1, 4, 2, 0, 0, 0, [], .null),
    (40, .aload_n 0, 1, 3, 0, 0, 0, 0, [], .null),
    (41, .getfield 20, 3, 26, 11, 9, 0, 0, [], .null),
    (44, .iconst 3, 1, 0, 0, 0, 0, 0, [], .int 3),
    (45, .iaload, 1, 31, 0, 0, 0, 0, [], .null),
    (46, .bipush 10, 2, 0, 0, 0, 0, 0, [], .int 10),
    (48, .if_icmp .ne 13, 3, 21, 61, 1, 0, 0, [], .null),
    (51, .aload_n 0, 1, 3, 0, 0, 0, 0, [], .null),
    (52, .bipush (-4), 2, 0, 0, 0, 0, 0, [], .int (-4)),
    (54, .aload_n 0, 1, 3, 0, 0, 0, 0, [], .null),
    (55, .getfield 93, 3, 24, 11, 13, 0, 0, [], .null),
    (58, .invokevirtual 85, 3, 48, 166, 3, 0, 0, [11], .null),
    (61, .aload_n 0, 1, 3, 0, 0, 0, 0, [], .null),
    (62, .invokevirtual 68, 3, 48, 146, 1, 0, 0, [11], .null),
    (65, .ifCond .ne 4, 3, 20, 69, 1, 0, 0, [], .null),
    (68, .return_, 1, 55, 0, 0, 0, 0, [], .null)]
def kX11_readGuard_61 : List Item := [(61, .aload_n 0, 1, 3, 0, 0, 0, 0, [], .null),
    (62, .invokevirtual 68, 3, 48, 146, 1, 0, 0, [11], .null),
    (65, .ifCond .ne 4, 3, 20, 69, 1, 0, 0, [], .null),
    (68, .return_, 1, 55, 0, 0, 0, 0, [], .null)]
def kX11_readGuard_69 : List Item := [(69, .aload_n 0, 1, 3, 0, 0, 0, 0, [], .null),
    (70, .getfield 20, 3, 26, 11, 9, 0, 0, [], .null),
    (73, .sipush 377, 3, 0, 0, 0, 0, 0, [], .int 377),
    (76, .aload_n 0, 1, 3, 0, 0, 0, 0, [], .null),
    (77, .getfield 20, 3, 26, 11, 9, 0, 0, [], .null),
    (80, .iconst 3, 1, 0, 0, 0, 0, 0, [], .int 3),
    (81, .iaload, 1, 31, 0, 0, 0, 0, [], .null),
    (82, .iadd, 1, 8, 0, 0, 0, 0, [], .null),
    (83, .iload_n 2, 1, 1, 2, 0, 0, 0, [], .null),
    (84, .iastore, 1, 35, 0, 0, 0, 0, [], .null),
    (85, .aload_n 0, 1, 3, 0, 0, 0, 0, [], .null),
    (86, .getfield 20, 3, 26, 11, 9, 0, 0, [], .null),
    (89, .iconst 3, 1, 0, 0, 0, 0, 0, [], .int 3),
    (90, .dup2, 1, 17, 0, 0, 0, 0, [], .null),
    (91, .iaload, 1, 31, 0, 0, 0, 0, [], .null),
    (92, .iconst 1, 1, 0, 0, 0, 0, 0, [], .int 1),
    (93, .iadd, 1, 8, 0, 0, 0, 0, [], .null),
    (94, .iastore, 1, 35, 0, 0, 0, 0, [], .null),
    (95, .aload_n 0, 1, 3, 0, 0, 0, 0, [], .null),
    (96, .invokevirtual 72, 3, 48, 151, 1, 0, 0, [11], .null),
    (99, .invokestatic 89, 3, 48, 144, 1, 0, 0, [], .null),
    (102, .ifCond .ne (-76), 3, 20, 26, 1, 0, 0, [], .null),
    (105, .return_, 1, 55, 0, 0, 0, 0, [], .null)]
def kX11_readGuard : Code9 := [(0, kX11_readGuard_0), (18, kX11_readGuard_18), (26, kX11_readGuard_26), (61, kX11_readGuard_61), (69, kX11_readGuard_69)]
theorem rX11_readGuard_0 (sa : Nat → Nat) (E : Nat → Sem) (MC MS : Nat) (HX : Nat → Nat → Option Nat) (Q : Option Value → Mm → Prop) (X : Nat → Mm → Prop) (L : List Slot) (st : List Value) (M : Mm) (nc ns : Nat) : Run sa E MC MS HX Q X kX11_readGuard 0 L st M nc ns = bk sa E MC MS HX (Run sa E MC MS HX Q X kX11_readGuard) Q X kX11_readGuard_0 L st M nc ns := Run_eq sa E MC MS HX Q X _ _ _ _ _ _ _
theorem rX11_readGuard_18 (sa : Nat → Nat) (E : Nat → Sem) (MC MS : Nat) (HX : Nat → Nat → Option Nat) (Q : Option Value → Mm → Prop) (X : Nat → Mm → Prop) (L : List Slot) (st : List Value) (M : Mm) (nc ns : Nat) : Run sa E MC MS HX Q X kX11_readGuard 18 L st M nc ns = bk sa E MC MS HX (Run sa E MC MS HX Q X kX11_readGuard) Q X kX11_readGuard_18 L st M nc ns := Run_eq sa E MC MS HX Q X _ _ _ _ _ _ _
theorem rX11_readGuard_26 (sa : Nat → Nat) (E : Nat → Sem) (MC MS : Nat) (HX : Nat → Nat → Option Nat) (Q : Option Value → Mm → Prop) (X : Nat → Mm → Prop) (L : List Slot) (st : List Value) (M : Mm) (nc ns : Nat) : Run sa E MC MS HX Q X kX11_readGuard 26 L st M nc ns = bk sa E MC MS HX (Run sa E MC MS HX Q X kX11_readGuard) Q X kX11_readGuard_26 L st M nc ns := Run_eq sa E MC MS HX Q X _ _ _ _ _ _ _
theorem rX11_readGuard_61 (sa : Nat → Nat) (E : Nat → Sem) (MC MS : Nat) (HX : Nat → Nat → Option Nat) (Q : Option Value → Mm → Prop) (X : Nat → Mm → Prop) (L : List Slot) (st : List Value) (M : Mm) (nc ns : Nat) : Run sa E MC MS HX Q X kX11_readGuard 61 L st M nc ns = bk sa E MC MS HX (Run sa E MC MS HX Q X kX11_readGuard) Q X kX11_readGuard_61 L st M nc ns := Run_eq sa E MC MS HX Q X _ _ _ _ _ _ _
theorem rX11_readGuard_69 (sa : Nat → Nat) (E : Nat → Sem) (MC MS : Nat) (HX : Nat → Nat → Option Nat) (Q : Option Value → Mm → Prop) (X : Nat → Mm → Prop) (L : List Slot) (st : List Value) (M : Mm) (nc ns : Nat) : Run sa E MC MS HX Q X kX11_readGuard 69 L st M nc ns = bk sa E MC MS HX (Run sa E MC MS HX Q X kX11_readGuard) Q X kX11_readGuard_69 L st M nc ns := Run_eq sa E MC MS HX Q X _ _ _ _ _ _ _
def kX11_readInflow_0 : List Item := [(0, .aload_n 0, 1, 3, 0, 0, 0, 0, [], .null),
    (1, .getfield 20, 3, 26, 11, 9, 0, 0, [], .null),
    (4, .bipush 6, 2, 0, 0, 0, 0, 0, [], .int 6),
    (6, .iaload, 1, 31, 0, 0, 0, 0, [], .null),
    (7, .iconst 1, 1, 0, 0, 0, 0, 0, [], .int 1),
    (8, .if_icmp .ne 10, 3, 21, 18, 1, 0, 0, [], .null),
    (11, .aload_n 0, 1, 3, 0, 0, 0, 0, [], .null),
    (12, .bipush (-2), 2, 0, 0, 0, 0, 0, [], .int (-2)),
    (14, .iload_n 1, 1, 1, 1, 0, 0, 0, [], .null),
    (15, .invokevirtual 85, 3, 48, 166, 3, 0, 0, [11], .null),
    (18, .aload_n 0, 1, 3, 0, 0, 0, 0, [], .null),
    (19, .getfield 20, 3, 26, 11, 9, 0, 0, [], .null),
    (22, .bipush 6, 2, 0, 0, 0, 0, 0, [], .int 6),
    (24, .iconst 1, 1, 0, 0, 0, 0, 0, [], .int 1),
    (25, .iastore, 1, 35, 0, 0, 0, 0, [], .null),
    (26, .aload_n 0, 1, 3, 0, 0, 0, 0, [], .null),
    (27, .invokevirtual 104, 3, 48, 6171, 1, 0, 0, [11], .null),
    (30, .return_, 1, 55, 0, 0, 0, 0, [], .null)]
def kX11_readInflow_18 : List Item := [(18, .aload_n 0, 1, 3, 0, 0, 0, 0, [], .null),
    (19, .getfield 20, 3, 26, 11, 9, 0, 0, [], .null),
    (22, .bipush 6, 2, 0, 0, 0, 0, 0, [], .int 6),
    (24, .iconst 1, 1, 0, 0, 0, 0, 0, [], .int 1),
    (25, .iastore, 1, 35, 0, 0, 0, 0, [], .null),
    (26, .aload_n 0, 1, 3, 0, 0, 0, 0, [], .null),
    (27, .invokevirtual 104, 3, 48, 6171, 1, 0, 0, [11], .null),
    (30, .return_, 1, 55, 0, 0, 0, 0, [], .null)]
def kX11_readInflow : Code9 := [(0, kX11_readInflow_0), (18, kX11_readInflow_18)]
theorem rX11_readInflow_0 (sa : Nat → Nat) (E : Nat → Sem) (MC MS : Nat) (HX : Nat → Nat → Option Nat) (Q : Option Value → Mm → Prop) (X : Nat → Mm → Prop) (L : List Slot) (st : List Value) (M : Mm) (nc ns : Nat) : Run sa E MC MS HX Q X kX11_readInflow 0 L st M nc ns = bk sa E MC MS HX (Run sa E MC MS HX Q X kX11_readInflow) Q X kX11_readInflow_0 L st M nc ns := Run_eq sa E MC MS HX Q X _ _ _ _ _ _ _
theorem rX11_readInflow_18 (sa : Nat → Nat) (E : Nat → Sem) (MC MS : Nat) (HX : Nat → Nat → Option Nat) (Q : Option Value → Mm → Prop) (X : Nat → Mm → Prop) (L : List Slot) (st : List Value) (M : Mm) (nc ns : Nat) : Run sa E MC MS HX Q X kX11_readInflow 18 L st M nc ns = bk sa E MC MS HX (Run sa E MC MS HX Q X kX11_readInflow) Q X kX11_readInflow_18 L st M nc ns := Run_eq sa E MC MS HX Q X _ _ _ _ _ _ _
def kX11_readTurn_0 : List Item := [(0, .sipush 353, 3, 0, 0, 0, 0, 0, [], .int 353),
    (3, .iconst 2, 1, 0, 0, 0, 0, 0, [], .int 2),
    (4, .aload_n 0, 1, 3, 0, 0, 0, 0, [], .null),
    (5, .getfield 20, 3, 26, 11, 9, 0, 0, [], .null),
    (8, .iconst 2, 1, 0, 0, 0, 0, 0, [], .int 2),
    (9, .iaload, 1, 31, 0, 0, 0, 0, [], .null),
    (10, .imul, 1, 8, 0, 2, 0, 0, [], .null),
    (11, .iadd, 1, 8, 0, 0, 0, 0, [], .null),
    (12, .istore_n 2, 1, 4, 2, 0, 0, 0, [], .null),
    (13, .aload_n 0, 1, 3, 0, 0, 0, 0, [], .null),
    (14, .getfield 20, 3, 26, 11, 9, 0, 0, [], .null),
    (17, .iconst 2, 1, 0, 0, 0, 0, 0, [], .int 2),
    (18, .iaload, 1, 31, 0, 0, 0, 0, [], .null),
    (19, .bipush 12, 2, 0, 0, 0, 0, 0, [], .int 12),
    (21, .if_icmp .ne 10, 3, 21, 31, 1, 0, 0, [], .null),
    (24, .aload_n 0, 1, 3, 0, 0, 0, 0, [], .null),
    (25, .bipush (-4), 2, 0, 0, 0, 0, 0, [], .int (-4)),
    (27, .iload_n 1, 1, 1, 1, 0, 0, 0, [], .null),
    (28, .invokevirtual 85, 3, 48, 166, 3, 0, 0, [11], .null),
    (31, .aload_n 0, 1, 3, 0, 0, 0, 0, [], .null),
    (32, .invokevirtual 68, 3, 48, 146, 1, 0, 0, [11], .null),
    (35, .ifCond .ne 4, 3, 20, 39, 1, 0, 0, [], .null),
    (38, .return_, 1, 55, 0, 0, 0, 0, [], .null)]
def kX11_readTurn_31 : List Item := [(31, .aload_n 0, 1, 3, 0, 0, 0, 0, [], .null),
    (32, .invokevirtual 68, 3, 48, 146, 1, 0, 0, [11], .null),
    (35, .ifCond .ne 4, 3, 20, 39, 1, 0, 0, [], .null),
    (38, .return_, 1, 55, 0, 0, 0, 0, [], .null)]
def kX11_readTurn_39 : List Item := [(39, .aload_n 0, 1, 3, 0, 0, 0, 0, [], .null),
    (40, .getfield 20, 3, 26, 11, 9, 0, 0, [], .null),
    (43, .iload_n 2, 1, 1, 2, 0, 0, 0, [], .null),
    (44, .aload_n 0, 1, 3, 0, 0, 0, 0, [], .null),
    (45, .iconst 0, 1, 0, 0, 0, 0, 0, [], .int 0),
    (46, .iconst 5, 1, 0, 0, 0, 0, 0, [], .int 5),
    (47, .invokevirtual 121, 3, 48, 155, 3, 0, 0, [11], .null),
    (50, .iastore, 1, 35, 0, 0, 0, 0, [], .null),
    (51, .aload_n 0, 1, 3, 0, 0, 0, 0, [], .null),
    (52, .getfield 20, 3, 26, 11, 9, 0, 0, [], .null),
    (55, .iload_n 2, 1, 1, 2, 0, 0, 0, [], .null),
    (56, .iconst 1, 1, 0, 0, 0, 0, 0, [], .int 1),
    (57, .iadd, 1, 8, 0, 0, 0, 0, [], .null),
    (58, .aload_n 0, 1, 3, 0, 0, 0, 0, [], .null),
    (59, .iconst 1, 1, 0, 0, 0, 0, 0, [], .int 1),
    (60, .bipush 99, 2, 0, 0, 0, 0, 0, [], .int 99),
    (62, .invokevirtual 121, 3, 48, 155, 3, 0, 0, [11], .null),
    (65, .iastore, 1, 35, 0, 0, 0, 0, [], .null),
    (66, .aload_n 0, 1, 3, 0, 0, 0, 0, [], .null),
    (67, .getfield 20, 3, 26, 11, 9, 0, 0, [], .null),
    (70, .iconst 2, 1, 0, 0, 0, 0, 0, [], .int 2),
    (71, .dup2, 1, 17, 0, 0, 0, 0, [], .null),
    (72, .iaload, 1, 31, 0, 0, 0, 0, [], .null),
    (73, .iconst 1, 1, 0, 0, 0, 0, 0, [], .int 1),
    (74, .iadd, 1, 8, 0, 0, 0, 0, [], .null),
    (75, .iastore, 1, 35, 0, 0, 0, 0, [], .null),
    (76, .return_, 1, 55, 0, 0, 0, 0, [], .null)]
def kX11_readTurn : Code9 := [(0, kX11_readTurn_0), (31, kX11_readTurn_31), (39, kX11_readTurn_39)]
theorem rX11_readTurn_0 (sa : Nat → Nat) (E : Nat → Sem) (MC MS : Nat) (HX : Nat → Nat → Option Nat) (Q : Option Value → Mm → Prop) (X : Nat → Mm → Prop) (L : List Slot) (st : List Value) (M : Mm) (nc ns : Nat) : Run sa E MC MS HX Q X kX11_readTurn 0 L st M nc ns = bk sa E MC MS HX (Run sa E MC MS HX Q X kX11_readTurn) Q X kX11_readTurn_0 L st M nc ns := Run_eq sa E MC MS HX Q X _ _ _ _ _ _ _
theorem rX11_readTurn_31 (sa : Nat → Nat) (E : Nat → Sem) (MC MS : Nat) (HX : Nat → Nat → Option Nat) (Q : Option Value → Mm → Prop) (X : Nat → Mm → Prop) (L : List Slot) (st : List Value) (M : Mm) (nc ns : Nat) : Run sa E MC MS HX Q X kX11_readTurn 31 L st M nc ns = bk sa E MC MS HX (Run sa E MC MS HX Q X kX11_readTurn) Q X kX11_readTurn_31 L st M nc ns := Run_eq sa E MC MS HX Q X _ _ _ _ _ _ _
theorem rX11_readTurn_39 (sa : Nat → Nat) (E : Nat → Sem) (MC MS : Nat) (HX : Nat → Nat → Option Nat) (Q : Option Value → Mm → Prop) (X : Nat → Mm → Prop) (L : List Slot) (st : List Value) (M : Mm) (nc ns : Nat) : Run sa E MC MS HX Q X kX11_readTurn 39 L st M nc ns = bk sa E MC MS HX (Run sa E MC MS HX Q X kX11_readTurn) Q X kX11_readTurn_39 L st M nc ns := Run_eq sa E MC MS HX Q X _ _ _ _ _ _ _
def kX11_remember_0 : List Item := [(0, .aload_n 0, 1, 3, 0, 0, 0, 0, [], .null),
    (1, .getfield 254, 3, 24, 11, 12, 0, 0, [], .null),
    (4, .bipush 8, 2, 0, 0, 0, 0, 0, [], .int 8),
    (6, .if_icmp .ne 44, 3, 21, 50, 1, 0, 0, [], .null),
    (9, .iconst 1, 1, 0, 0, 0, 0, 0, [], .int 1),
    (10, .istore_n 1, 1, 4, 1, 0, 0, 0, [], .null),
    (11, .nop, 0, 60, 11, 0, 0, 0, [], .null)]
def kX11_remember_11 : List Item := [(11, .iload_n 1, 1, 1, 1, 0, 0, 0, [], .null),
    (12, .bipush 8, 2, 0, 0, 0, 0, 0, [], .int 8),
    (14, .if_icmp .ge 26, 3, 21, 40, 3, 0, 0, [], .null),
    (17, .aload_n 0, 1, 3, 0, 0, 0, 0, [], .null),
    (18, .getfield 28, 3, 26, 11, 11, 0, 0, [], .null),
    (21, .iload_n 1, 1, 1, 1, 0, 0, 0, [], .null),
    (22, .aaload, 1, 33, 5, 0, 0, 0, [], .null),
    (23, .aload_n 0, 1, 3, 0, 0, 0, 0, [], .null),
    (24, .getfield 28, 3, 26, 11, 11, 0, 0, [], .null),
    (27, .iload_n 1, 1, 1, 1, 0, 0, 0, [], .null),
    (28, .iconst 1, 1, 0, 0, 0, 0, 0, [], .int 1),
    (29, .isub, 1, 8, 0, 1, 0, 0, [], .null),
    (30, .aaload, 1, 33, 5, 0, 0, 0, [], .null),
    (31, .invokestatic 179, 3, 48, 117, 2, 0, 0, [], .null),
    (34, .iinc 1 1, 3, 7, 1, 0, 0, 0, [], .int 1),
    (37, .goto (-26), 3, 22, 11, 0, 0, 0, [], .null)]
def kX11_remember_40 : List Item := [(40, .aload_n 0, 1, 3, 0, 0, 0, 0, [], .null),
    (41, .dup, 1, 16, 0, 0, 0, 0, [], .null),
    (42, .getfield 254, 3, 24, 11, 12, 0, 0, [], .null),
    (45, .iconst 1, 1, 0, 0, 0, 0, 0, [], .int 1),
    (46, .isub, 1, 8, 0, 1, 0, 0, [], .null),
    (47, .putfield 254, 3, 27, 11, 12, 0, 0, [], .null),
    (50, .aload_n 0, 1, 3, 0, 0, 0, 0, [], .null),
    (51, .getfield 17, 3, 26, 11, 8, 0, 0, [], .null),
    (54, .aload_n 0, 1, 3, 0, 0, 0, 0, [], .null),
    (55, .getfield 28, 3, 26, 11, 11, 0, 0, [], .null),
    (58, .aload_n 0, 1, 3, 0, 0, 0, 0, [], .null),
    (59, .getfield 254, 3, 24, 11, 12, 0, 0, [], .null),
    (62, .aaload, 1, 33, 5, 0, 0, 0, [], .null),
    (63, .invokestatic 179, 3, 48, 117, 2, 0, 0, [], .null),
    (66, .aload_n 0, 1, 3, 0, 0, 0, 0, [], .null),
    (67, .dup, 1, 16, 0, 0, 0, 0, [], .null),
    (68, .getfield 254, 3, 24, 11, 12, 0, 0, [], .null),
    (71, .iconst 1, 1, 0, 0, 0, 0, 0, [], .int 1),
    (72, .iadd, 1, 8, 0, 0, 0, 0, [], .null),
    (73, .putfield 254, 3, 27, 11, 12, 0, 0, [], .null),
    (76, .return_, 1, 55, 0, 0, 0, 0, [], .null)]
def kX11_remember_50 : List Item := [(50, .aload_n 0, 1, 3, 0, 0, 0, 0, [], .null),
    (51, .getfield 17, 3, 26, 11, 8, 0, 0, [], .null),
    (54, .aload_n 0, 1, 3, 0, 0, 0, 0, [], .null),
    (55, .getfield 28, 3, 26, 11, 11, 0, 0, [], .null),
    (58, .aload_n 0, 1, 3, 0, 0, 0, 0, [], .null),
    (59, .getfield 254, 3, 24, 11, 12, 0, 0, [], .null),
    (62, .aaload, 1, 33, 5, 0, 0, 0, [], .null),
    (63, .invokestatic 179, 3, 48, 117, 2, 0, 0, [], .null),
    (66, .aload_n 0, 1, 3, 0, 0, 0, 0, [], .null),
    (67, .dup, 1, 16, 0, 0, 0, 0, [], .null),
    (68, .getfield 254, 3, 24, 11, 12, 0, 0, [], .null),
    (71, .iconst 1, 1, 0, 0, 0, 0, 0, [], .int 1),
    (72, .iadd, 1, 8, 0, 0, 0, 0, [], .null),
    (73, .putfield 254, 3, 27, 11, 12, 0, 0, [], .null),
    (76, .return_, 1, 55, 0, 0, 0, 0, [], .null)]
def kX11_remember : Code9 := [(0, kX11_remember_0), (11, kX11_remember_11), (40, kX11_remember_40), (50, kX11_remember_50)]
theorem rX11_remember_0 (sa : Nat → Nat) (E : Nat → Sem) (MC MS : Nat) (HX : Nat → Nat → Option Nat) (Q : Option Value → Mm → Prop) (X : Nat → Mm → Prop) (L : List Slot) (st : List Value) (M : Mm) (nc ns : Nat) : Run sa E MC MS HX Q X kX11_remember 0 L st M nc ns = bk sa E MC MS HX (Run sa E MC MS HX Q X kX11_remember) Q X kX11_remember_0 L st M nc ns := Run_eq sa E MC MS HX Q X _ _ _ _ _ _ _
theorem rX11_remember_11 (sa : Nat → Nat) (E : Nat → Sem) (MC MS : Nat) (HX : Nat → Nat → Option Nat) (Q : Option Value → Mm → Prop) (X : Nat → Mm → Prop) (L : List Slot) (st : List Value) (M : Mm) (nc ns : Nat) : Run sa E MC MS HX Q X kX11_remember 11 L st M nc ns = bk sa E MC MS HX (Run sa E MC MS HX Q X kX11_remember) Q X kX11_remember_11 L st M nc ns := Run_eq sa E MC MS HX Q X _ _ _ _ _ _ _
theorem rX11_remember_40 (sa : Nat → Nat) (E : Nat → Sem) (MC MS : Nat) (HX : Nat → Nat → Option Nat) (Q : Option Value → Mm → Prop) (X : Nat → Mm → Prop) (L : List Slot) (st : List Value) (M : Mm) (nc ns : Nat) : Run sa E MC MS HX Q X kX11_remember 40 L st M nc ns = bk sa E MC MS HX (Run sa E MC MS HX Q X kX11_remember) Q X kX11_remember_40 L st M nc ns := Run_eq sa E MC MS HX Q X _ _ _ _ _ _ _
theorem rX11_remember_50 (sa : Nat → Nat) (E : Nat → Sem) (MC MS : Nat) (HX : Nat → Nat → Option Nat) (Q : Option Value → Mm → Prop) (X : Nat → Mm → Prop) (L : List Slot) (st : List Value) (M : Mm) (nc ns : Nat) : Run sa E MC MS HX Q X kX11_remember 50 L st M nc ns = bk sa E MC MS HX (Run sa E MC MS HX Q X kX11_remember) Q X kX11_remember_50 L st M nc ns := Run_eq sa E MC MS HX Q X _ _ _ _ _ _ _
def kX11_report_0 : List Item := [(0, .aload_n 0, 1, 3, 0, 0, 0, 0, [], .null),
    (1, .getfield 58, 3, 24, 11, 5, 0, 0, [], .null),
    (4, .ifCond .eq 4, 3, 20, 8, 0, 0, 0, [], .null),
    (7, .return_, 1, 55, 0, 0, 0, 0, [], .null)]
def kX11_report_8 : List Item := [(8, .aload_n 0, 1, 3, 0, 0, 0, 0, [], .null),
    (9, .iload_n 1, 1, 1, 1, 0, 0, 0, [], .null),
    (10, .putfield 58, 3, 27, 11, 5, 0, 0, [], .null),
    (13, .aload_n 0, 1, 3, 0, 0, 0, 0, [], .null),
    (14, .iload_n 2, 1, 1, 2, 0, 0, 0, [], .null),
    (15, .putfield 61, 3, 27, 11, 6, 0, 0, [], .null),
    (18, .return_, 1, 55, 0, 0, 0, 0, [], .null)]
def kX11_report : Code9 := [(0, kX11_report_0), (8, kX11_report_8)]
theorem rX11_report_0 (sa : Nat → Nat) (E : Nat → Sem) (MC MS : Nat) (HX : Nat → Nat → Option Nat) (Q : Option Value → Mm → Prop) (X : Nat → Mm → Prop) (L : List Slot) (st : List Value) (M : Mm) (nc ns : Nat) : Run sa E MC MS HX Q X kX11_report 0 L st M nc ns = bk sa E MC MS HX (Run sa E MC MS HX Q X kX11_report) Q X kX11_report_0 L st M nc ns := Run_eq sa E MC MS HX Q X _ _ _ _ _ _ _
theorem rX11_report_8 (sa : Nat → Nat) (E : Nat → Sem) (MC MS : Nat) (HX : Nat → Nat → Option Nat) (Q : Option Value → Mm → Prop) (X : Nat → Mm → Prop) (L : List Slot) (st : List Value) (M : Mm) (nc ns : Nat) : Run sa E MC MS HX Q X kX11_report 8 L st M nc ns = bk sa E MC MS HX (Run sa E MC MS HX Q X kX11_report) Q X kX11_report_8 L st M nc ns := Run_eq sa E MC MS HX Q X _ _ _ _ _ _ _
def kX11_run_0 : List Item := [(0, .aload_n 0, 1, 3, 0, 0, 0, 0, [], .null),
    (1, .iconst 0, 1, 0, 0, 0, 0, 0, [], .int 0),
    (2, .putfield 42, 3, 27, 11, 0, 0, 0, [], .null),
    (5, .aload_n 0, 1, 3, 0, 0, 0, 0, [], .null),
    (6, .iload_n 1, 1, 1, 1, 0, 0, 0, [], .null),
    (7, .iconst 1, 1, 0, 0, 0, 0, 0, [], .int 1),
    (8, .bipush 100, 2, 0, 0, 0, 0, 0, [], .int 100),
    (10, .invokestatic 64, 3, 48, 139, 3, 0, 0, [], .null),
    (13, .ifCond .ne 7, 3, 20, 20, 1, 0, 0, [], .null),
    (16, .iconst 1, 1, 0, 0, 0, 0, 0, [], .int 1),
    (17, .goto 4, 3, 22, 21, 0, 0, 0, [], .null)]
def kX11_run_20 : List Item := [(20, .iconst 0, 1, 0, 0, 0, 0, 0, [], .int 0),
    (21, .iconst 1, 1, 0, 0, 0, 0, 0, [], .int 1),
    (22, .invokevirtual 169, 3, 48, 129, 3, 0, 0, [11], .null),
    (25, .ifCond .ne 38, 3, 20, 63, 1, 0, 0, [], .null),
    (28, .aload_n 0, 1, 3, 0, 0, 0, 0, [], .null),
    (29, .aload_n 0, 1, 3, 0, 0, 0, 0, [], .null),
    (30, .getfield 17, 3, 26, 11, 8, 0, 0, [], .null),
    (33, .iconst 0, 1, 0, 0, 0, 0, 0, [], .int 0),
    (34, .iaload, 1, 31, 0, 0, 0, 0, [], .null),
    (35, .ifCond .eq 16, 3, 20, 51, 0, 0, 0, [], .null),
    (38, .aload_n 0, 1, 3, 0, 0, 0, 0, [], .null),
    (39, .getfield 17, 3, 26, 11, 8, 0, 0, [], .null),
    (42, .iconst 5, 1, 0, 0, 0, 0, 0, [], .int 5),
    (43, .iaload, 1, 31, 0, 0, 0, 0, [], .null),
    (44, .iload_n 1, 1, 1, 1, 0, 0, 0, [], .null),
    (45, .iadd, 1, 8, 0, 0, 0, 0, [], .null),
    (46, .ldc 204, 2, 0, 0, 0, 0, 0, [], .int 100000),
    (48, .if_icmp .le 7, 3, 21, 55, 5, 0, 0, [], .null),
    (51, .iconst 1, 1, 0, 0, 0, 0, 0, [], .int 1),
    (52, .goto 4, 3, 22, 56, 0, 0, 0, [], .null)]
def kX11_run_21 : List Item := [(21, .iconst 1, 1, 0, 0, 0, 0, 0, [], .int 1),
    (22, .invokevirtual 169, 3, 48, 129, 3, 0, 0, [11], .null),
    (25, .ifCond .ne 38, 3, 20, 63, 1, 0, 0, [], .null),
    (28, .aload_n 0, 1, 3, 0, 0, 0, 0, [], .null),
    (29, .aload_n 0, 1, 3, 0, 0, 0, 0, [], .null),
    (30, .getfield 17, 3, 26, 11, 8, 0, 0, [], .null),
    (33, .iconst 0, 1, 0, 0, 0, 0, 0, [], .int 0),
    (34, .iaload, 1, 31, 0, 0, 0, 0, [], .null),
    (35, .ifCond .eq 16, 3, 20, 51, 0, 0, 0, [], .null),
    (38, .aload_n 0, 1, 3, 0, 0, 0, 0, [], .null),
    (39, .getfield 17, 3, 26, 11, 8, 0, 0, [], .null),
    (42, .iconst 5, 1, 0, 0, 0, 0, 0, [], .int 5),
    (43, .iaload, 1, 31, 0, 0, 0, 0, [], .null),
    (44, .iload_n 1, 1, 1, 1, 0, 0, 0, [], .null),
    (45, .iadd, 1, 8, 0, 0, 0, 0, [], .null),
    (46, .ldc 204, 2, 0, 0, 0, 0, 0, [], .int 100000),
    (48, .if_icmp .le 7, 3, 21, 55, 5, 0, 0, [], .null),
    (51, .iconst 1, 1, 0, 0, 0, 0, 0, [], .int 1),
    (52, .goto 4, 3, 22, 56, 0, 0, 0, [], .null)]
def kX11_run_51 : List Item := [(51, .iconst 1, 1, 0, 0, 0, 0, 0, [], .int 1),
    (52, .goto 4, 3, 22, 56, 0, 0, 0, [], .null)]
def kX11_run_55 : List Item := [(55, .iconst 0, 1, 0, 0, 0, 0, 0, [], .int 0),
    (56, .iconst 2, 1, 0, 0, 0, 0, 0, [], .int 2),
    (57, .invokevirtual 169, 3, 48, 129, 3, 0, 0, [11], .null),
    (60, .ifCond .eq 5, 3, 20, 65, 0, 0, 0, [], .null),
    (63, .iconst 0, 1, 0, 0, 0, 0, 0, [], .int 0),
    (64, .ireturn, 1, 56, 0, 0, 0, 0, [], .null)]
def kX11_run_56 : List Item := [(56, .iconst 2, 1, 0, 0, 0, 0, 0, [], .int 2),
    (57, .invokevirtual 169, 3, 48, 129, 3, 0, 0, [11], .null),
    (60, .ifCond .eq 5, 3, 20, 65, 0, 0, 0, [], .null),
    (63, .iconst 0, 1, 0, 0, 0, 0, 0, [], .int 0),
    (64, .ireturn, 1, 56, 0, 0, 0, 0, [], .null)]
def kX11_run_63 : List Item := [(63, .iconst 0, 1, 0, 0, 0, 0, 0, [], .int 0),
    (64, .ireturn, 1, 56, 0, 0, 0, 0, [], .null)]
def kX11_run_65 : List Item := [(65, .aload_n 0, 1, 3, 0, 0, 0, 0, [], .null),
    (66, .invokevirtual 176, 3, 48, 165, 1, 0, 0, [11], .null),
    (69, .aload_n 0, 1, 3, 0, 0, 0, 0, [], .null),
    (70, .invokevirtual 257, 3, 48, 176, 1, 0, 0, [11], .null),
    (73, .istore_n 2, 1, 4, 2, 0, 0, 0, [], .null),
    (74, .iconst 0, 1, 0, 0, 0, 0, 0, [], .int 0),
    (75, .istore_n 3, 1, 4, 3, 0, 0, 0, [], .null),
    (76, .nop, 0, 60, 76, 0, 0, 0, [], .null)]
def kX11_run_76 : List Item := [(76, .iload_n 3, 1, 1, 3, 0, 0, 0, [], .null),
    (77, .iload_n 1, 1, 1, 1, 0, 0, 0, [], .null),
    (78, .if_icmp .ge 17, 3, 21, 95, 3, 0, 0, [], .null),
    (81, .aload_n 0, 1, 3, 0, 0, 0, 0, [], .null),
    (82, .aload_n 0, 1, 3, 0, 0, 0, 0, [], .null),
    (83, .getfield 17, 3, 26, 11, 8, 0, 0, [], .null),
    (86, .invokevirtual 248, 3, 48, 168, 2, 0, 0, [11], .null),
    (89, .iinc 3 1, 3, 7, 3, 0, 0, 0, [], .int 1),
    (92, .goto (-16), 3, 22, 76, 0, 0, 0, [], .null)]
def kX11_run_95 : List Item := [(95, .aload_n 0, 1, 3, 0, 0, 0, 0, [], .null),
    (96, .invokevirtual 257, 3, 48, 176, 1, 0, 0, [11], .null),
    (99, .iload_n 2, 1, 1, 2, 0, 0, 0, [], .null),
    (100, .isub, 1, 8, 0, 1, 0, 0, [], .null),
    (101, .ireturn, 1, 56, 0, 0, 0, 0, [], .null)]
def kX11_run : Code9 := [(0, kX11_run_0), (20, kX11_run_20), (21, kX11_run_21), (51, kX11_run_51), (55, kX11_run_55), (56, kX11_run_56), (63, kX11_run_63), (65, kX11_run_65), (76, kX11_run_76), (95, kX11_run_95)]
theorem rX11_run_0 (sa : Nat → Nat) (E : Nat → Sem) (MC MS : Nat) (HX : Nat → Nat → Option Nat) (Q : Option Value → Mm → Prop) (X : Nat → Mm → Prop) (L : List Slot) (st : List Value) (M : Mm) (nc ns : Nat) : Run sa E MC MS HX Q X kX11_run 0 L st M nc ns = bk sa E MC MS HX (Run sa E MC MS HX Q X kX11_run) Q X kX11_run_0 L st M nc ns := Run_eq sa E MC MS HX Q X _ _ _ _ _ _ _
theorem rX11_run_20 (sa : Nat → Nat) (E : Nat → Sem) (MC MS : Nat) (HX : Nat → Nat → Option Nat) (Q : Option Value → Mm → Prop) (X : Nat → Mm → Prop) (L : List Slot) (st : List Value) (M : Mm) (nc ns : Nat) : Run sa E MC MS HX Q X kX11_run 20 L st M nc ns = bk sa E MC MS HX (Run sa E MC MS HX Q X kX11_run) Q X kX11_run_20 L st M nc ns := Run_eq sa E MC MS HX Q X _ _ _ _ _ _ _
theorem rX11_run_21 (sa : Nat → Nat) (E : Nat → Sem) (MC MS : Nat) (HX : Nat → Nat → Option Nat) (Q : Option Value → Mm → Prop) (X : Nat → Mm → Prop) (L : List Slot) (st : List Value) (M : Mm) (nc ns : Nat) : Run sa E MC MS HX Q X kX11_run 21 L st M nc ns = bk sa E MC MS HX (Run sa E MC MS HX Q X kX11_run) Q X kX11_run_21 L st M nc ns := Run_eq sa E MC MS HX Q X _ _ _ _ _ _ _
theorem rX11_run_51 (sa : Nat → Nat) (E : Nat → Sem) (MC MS : Nat) (HX : Nat → Nat → Option Nat) (Q : Option Value → Mm → Prop) (X : Nat → Mm → Prop) (L : List Slot) (st : List Value) (M : Mm) (nc ns : Nat) : Run sa E MC MS HX Q X kX11_run 51 L st M nc ns = bk sa E MC MS HX (Run sa E MC MS HX Q X kX11_run) Q X kX11_run_51 L st M nc ns := Run_eq sa E MC MS HX Q X _ _ _ _ _ _ _
theorem rX11_run_55 (sa : Nat → Nat) (E : Nat → Sem) (MC MS : Nat) (HX : Nat → Nat → Option Nat) (Q : Option Value → Mm → Prop) (X : Nat → Mm → Prop) (L : List Slot) (st : List Value) (M : Mm) (nc ns : Nat) : Run sa E MC MS HX Q X kX11_run 55 L st M nc ns = bk sa E MC MS HX (Run sa E MC MS HX Q X kX11_run) Q X kX11_run_55 L st M nc ns := Run_eq sa E MC MS HX Q X _ _ _ _ _ _ _
theorem rX11_run_56 (sa : Nat → Nat) (E : Nat → Sem) (MC MS : Nat) (HX : Nat → Nat → Option Nat) (Q : Option Value → Mm → Prop) (X : Nat → Mm → Prop) (L : List Slot) (st : List Value) (M : Mm) (nc ns : Nat) : Run sa E MC MS HX Q X kX11_run 56 L st M nc ns = bk sa E MC MS HX (Run sa E MC MS HX Q X kX11_run) Q X kX11_run_56 L st M nc ns := Run_eq sa E MC MS HX Q X _ _ _ _ _ _ _
theorem rX11_run_63 (sa : Nat → Nat) (E : Nat → Sem) (MC MS : Nat) (HX : Nat → Nat → Option Nat) (Q : Option Value → Mm → Prop) (X : Nat → Mm → Prop) (L : List Slot) (st : List Value) (M : Mm) (nc ns : Nat) : Run sa E MC MS HX Q X kX11_run 63 L st M nc ns = bk sa E MC MS HX (Run sa E MC MS HX Q X kX11_run) Q X kX11_run_63 L st M nc ns := Run_eq sa E MC MS HX Q X _ _ _ _ _ _ _
theorem rX11_run_65 (sa : Nat → Nat) (E : Nat → Sem) (MC MS : Nat) (HX : Nat → Nat → Option Nat) (Q : Option Value → Mm → Prop) (X : Nat → Mm → Prop) (L : List Slot) (st : List Value) (M : Mm) (nc ns : Nat) : Run sa E MC MS HX Q X kX11_run 65 L st M nc ns = bk sa E MC MS HX (Run sa E MC MS HX Q X kX11_run) Q X kX11_run_65 L st M nc ns := Run_eq sa E MC MS HX Q X _ _ _ _ _ _ _
theorem rX11_run_76 (sa : Nat → Nat) (E : Nat → Sem) (MC MS : Nat) (HX : Nat → Nat → Option Nat) (Q : Option Value → Mm → Prop) (X : Nat → Mm → Prop) (L : List Slot) (st : List Value) (M : Mm) (nc ns : Nat) : Run sa E MC MS HX Q X kX11_run 76 L st M nc ns = bk sa E MC MS HX (Run sa E MC MS HX Q X kX11_run) Q X kX11_run_76 L st M nc ns := Run_eq sa E MC MS HX Q X _ _ _ _ _ _ _
theorem rX11_run_95 (sa : Nat → Nat) (E : Nat → Sem) (MC MS : Nat) (HX : Nat → Nat → Option Nat) (Q : Option Value → Mm → Prop) (X : Nat → Mm → Prop) (L : List Slot) (st : List Value) (M : Mm) (nc ns : Nat) : Run sa E MC MS HX Q X kX11_run 95 L st M nc ns = bk sa E MC MS HX (Run sa E MC MS HX Q X kX11_run) Q X kX11_run_95 L st M nc ns := Run_eq sa E MC MS HX Q X _ _ _ _ _ _ _
def kX11_simulate_0 : List Item := [(0, .aload_n 1, 1, 3, 1, 0, 0, 0, [], .null),
    (1, .aload_n 1, 1, 3, 1, 0, 0, 0, [], .null),
    (2, .iconst 5, 1, 0, 0, 0, 0, 0, [], .int 5),
    (3, .iaload, 1, 31, 0, 0, 0, 0, [], .null),
    (4, .invokestatic 195, 3, 48, 180, 2, 0, 0, [], .null),
    (7, .istore_n 2, 1, 4, 2, 0, 0, 0, [], .null),
    (8, .aload_n 0, 1, 3, 0, 0, 0, 0, [], .null),
    (9, .aload_n 1, 1, 3, 1, 0, 0, 0, [], .null),
    (10, .aload_n 1, 1, 3, 1, 0, 0, 0, [], .null),
    (11, .iconst 5, 1, 0, 0, 0, 0, 0, [], .int 5),
    (12, .iaload, 1, 31, 0, 0, 0, 0, [], .null),
    (13, .invokevirtual 205, 3, 48, 141, 3, 0, 0, [11], .null),
    (16, .istore_n 3, 1, 4, 3, 0, 0, 0, [], .null),
    (17, .aload_n 0, 1, 3, 0, 0, 0, 0, [], .null),
    (18, .aload_n 1, 1, 3, 1, 0, 0, 0, [], .null),
    (19, .invokevirtual 218, 3, 48, 133, 2, 0, 0, [11], .null),
    (22, .aload_n 1, 1, 3, 1, 0, 0, 0, [], .null),
    (23, .bipush 8, 2, 0, 0, 0, 0, 0, [], .int 8),
    (25, .dup2, 1, 17, 0, 0, 0, 0, [], .null),
    (26, .iaload, 1, 31, 0, 0, 0, 0, [], .null),
    (27, .iload_n 3, 1, 1, 3, 0, 0, 0, [], .null),
    (28, .iadd, 1, 8, 0, 0, 0, 0, [], .null),
    (29, .iastore, 1, 35, 0, 0, 0, 0, [], .null),
    (30, .aload_n 1, 1, 3, 1, 0, 0, 0, [], .null),
    (31, .iconst 0, 1, 0, 0, 0, 0, 0, [], .int 0),
    (32, .iload_n 3, 1, 1, 3, 0, 0, 0, [], .null),
    (33, .invokestatic 214, 3, 48, 124, 3, 0, 0, [], .null),
    (36, .iconst 0, 1, 0, 0, 0, 0, 0, [], .int 0),
    (37, .istore 4, 2, 4, 4, 0, 0, 0, [], .null),
    (39, .nop, 0, 60, 39, 0, 0, 0, [], .null)]
def kX11_simulate_39 : List Item := [(39, .iload 4, 2, 1, 4, 0, 0, 0, [], .null),
    (41, .aload_n 1, 1, 3, 1, 0, 0, 0, [], .null),
    (42, .iconst 0, 1, 0, 0, 0, 0, 0, [], .int 0),
    (43, .iaload, 1, 31, 0, 0, 0, 0, [], .null),
    (44, .if_icmp .ge 49, 3, 21, 93, 3, 0, 0, [], .null),
    (47, .aload_n 1, 1, 3, 1, 0, 0, 0, [], .null),
    (48, .iload 4, 2, 1, 4, 0, 0, 0, [], .null),
    (50, .invokestatic 133, 3, 48, 113, 1, 0, 0, [], .null),
    (53, .bipush 6, 2, 0, 0, 0, 0, 0, [], .int 6),
    (55, .iadd, 1, 8, 0, 0, 0, 0, [], .null),
    (56, .iaload, 1, 31, 0, 0, 0, 0, [], .null),
    (57, .istore 5, 2, 4, 5, 0, 0, 0, [], .null),
    (59, .aload_n 1, 1, 3, 1, 0, 0, 0, [], .null),
    (60, .iload 4, 2, 1, 4, 0, 0, 0, [], .null),
    (62, .invokestatic 133, 3, 48, 113, 1, 0, 0, [], .null),
    (65, .iconst 5, 1, 0, 0, 0, 0, 0, [], .int 5),
    (66, .iadd, 1, 8, 0, 0, 0, 0, [], .null),
    (67, .iload 5, 2, 1, 5, 0, 0, 0, [], .null),
    (69, .iastore, 1, 35, 0, 0, 0, 0, [], .null),
    (70, .aload_n 0, 1, 3, 0, 0, 0, 0, [], .null),
    (71, .aload_n 1, 1, 3, 1, 0, 0, 0, [], .null),
    (72, .iload 4, 2, 1, 4, 0, 0, 0, [], .null),
    (74, .aload_n 0, 1, 3, 0, 0, 0, 0, [], .null),
    (75, .aload_n 1, 1, 3, 1, 0, 0, 0, [], .null),
    (76, .iload 4, 2, 1, 4, 0, 0, 0, [], .null),
    (78, .iload 5, 2, 1, 5, 0, 0, 0, [], .null),
    (80, .iload_n 2, 1, 1, 2, 0, 0, 0, [], .null),
    (81, .invokevirtual 222, 3, 48, 143, 5, 0, 0, [11], .null),
    (84, .invokevirtual 226, 3, 48, 121, 4, 0, 0, [11], .null),
    (87, .iinc 4 1, 3, 7, 4, 0, 0, 0, [], .int 1),
    (90, .goto (-51), 3, 22, 39, 0, 0, 0, [], .null)]
def kX11_simulate_93 : List Item := [(93, .aload_n 1, 1, 3, 1, 0, 0, 0, [], .null),
    (94, .iconst 1, 1, 0, 0, 0, 0, 0, [], .int 1),
    (95, .iaload, 1, 31, 0, 0, 0, 0, [], .null),
    (96, .iconst 1, 1, 0, 0, 0, 0, 0, [], .int 1),
    (97, .isub, 1, 8, 0, 1, 0, 0, [], .null),
    (98, .istore 4, 2, 4, 4, 0, 0, 0, [], .null),
    (100, .nop, 0, 60, 100, 0, 0, 0, [], .null)]
def kX11_simulate_100 : List Item := [(100, .iload 4, 2, 1, 4, 0, 0, 0, [], .null),
    (102, .ifCond .lt 15, 3, 20, 117, 2, 0, 0, [], .null),
    (105, .aload_n 1, 1, 3, 1, 0, 0, 0, [], .null),
    (106, .iload 4, 2, 1, 4, 0, 0, 0, [], .null),
    (108, .invokestatic 229, 3, 48, 122, 2, 0, 0, [], .null),
    (111, .iinc 4 (-1), 3, 7, 4, 0, 0, 0, [], .int (-1)),
    (114, .goto (-14), 3, 22, 100, 0, 0, 0, [], .null)]
def kX11_simulate_117 : List Item := [(117, .aload_n 1, 1, 3, 1, 0, 0, 0, [], .null),
    (118, .invokestatic 233, 3, 48, 159, 1, 0, 0, [], .null),
    (121, .aload_n 1, 1, 3, 1, 0, 0, 0, [], .null),
    (122, .iconst 5, 1, 0, 0, 0, 0, 0, [], .int 5),
    (123, .dup2, 1, 17, 0, 0, 0, 0, [], .null),
    (124, .iaload, 1, 31, 0, 0, 0, 0, [], .null),
    (125, .iconst 1, 1, 0, 0, 0, 0, 0, [], .int 1),
    (126, .iadd, 1, 8, 0, 0, 0, 0, [], .null),
    (127, .iastore, 1, 35, 0, 0, 0, 0, [], .null),
    (128, .iconst 0, 1, 0, 0, 0, 0, 0, [], .int 0),
    (129, .istore 4, 2, 4, 4, 0, 0, 0, [], .null),
    (131, .nop, 0, 60, 131, 0, 0, 0, [], .null)]
def kX11_simulate_131 : List Item := [(131, .iload 4, 2, 1, 4, 0, 0, 0, [], .null),
    (133, .aload_n 1, 1, 3, 1, 0, 0, 0, [], .null),
    (134, .iconst 0, 1, 0, 0, 0, 0, 0, [], .int 0),
    (135, .iaload, 1, 31, 0, 0, 0, 0, [], .null),
    (136, .if_icmp .ge 59, 3, 21, 195, 3, 0, 0, [], .null),
    (139, .iload 4, 2, 1, 4, 0, 0, 0, [], .null),
    (141, .invokestatic 133, 3, 48, 113, 1, 0, 0, [], .null),
    (144, .bipush 6, 2, 0, 0, 0, 0, 0, [], .int 6),
    (146, .iadd, 1, 8, 0, 0, 0, 0, [], .null),
    (147, .istore 5, 2, 4, 5, 0, 0, 0, [], .null),
    (149, .iconst 0, 1, 0, 0, 0, 0, 0, [], .int 0),
    (150, .istore 6, 2, 4, 6, 0, 0, 0, [], .null),
    (152, .nop, 0, 60, 152, 0, 0, 0, [], .null)]
def kX11_simulate_152 : List Item := [(152, .iload 6, 2, 1, 6, 0, 0, 0, [], .null),
    (154, .bipush 6, 2, 0, 0, 0, 0, 0, [], .int 6),
    (156, .if_icmp .ge 25, 3, 21, 181, 3, 0, 0, [], .null),
    (159, .aload_n 1, 1, 3, 1, 0, 0, 0, [], .null),
    (160, .iload 5, 2, 1, 5, 0, 0, 0, [], .null),
    (162, .iload 6, 2, 1, 6, 0, 0, 0, [], .null),
    (164, .iadd, 1, 8, 0, 0, 0, 0, [], .null),
    (165, .aload_n 1, 1, 3, 1, 0, 0, 0, [], .null),
    (166, .iload 5, 2, 1, 5, 0, 0, 0, [], .null),
    (168, .iload 6, 2, 1, 6, 0, 0, 0, [], .null),
    (170, .iadd, 1, 8, 0, 0, 0, 0, [], .null),
    (171, .iconst 1, 1, 0, 0, 0, 0, 0, [], .int 1),
    (172, .iadd, 1, 8, 0, 0, 0, 0, [], .null),
    (173, .iaload, 1, 31, 0, 0, 0, 0, [], .null),
    (174, .iastore, 1, 35, 0, 0, 0, 0, [], .null),
    (175, .iinc 6 1, 3, 7, 6, 0, 0, 0, [], .int 1),
    (178, .goto (-26), 3, 22, 152, 0, 0, 0, [], .null)]
def kX11_simulate_181 : List Item := [(181, .aload_n 1, 1, 3, 1, 0, 0, 0, [], .null),
    (182, .iload 5, 2, 1, 5, 0, 0, 0, [], .null),
    (184, .bipush 6, 2, 0, 0, 0, 0, 0, [], .int 6),
    (186, .iadd, 1, 8, 0, 0, 0, 0, [], .null),
    (187, .iconst 0, 1, 0, 0, 0, 0, 0, [], .int 0),
    (188, .iastore, 1, 35, 0, 0, 0, 0, [], .null),
    (189, .iinc 4 1, 3, 7, 4, 0, 0, 0, [], .int 1),
    (192, .goto (-61), 3, 22, 131, 0, 0, 0, [], .null)]
def kX11_simulate_195 : List Item := [(195, .return_, 1, 55, 0, 0, 0, 0, [], .null)]
def kX11_simulate : Code9 := [(0, kX11_simulate_0), (39, kX11_simulate_39), (93, kX11_simulate_93), (100, kX11_simulate_100), (117, kX11_simulate_117), (131, kX11_simulate_131), (152, kX11_simulate_152), (181, kX11_simulate_181), (195, kX11_simulate_195)]
theorem rX11_simulate_0 (sa : Nat → Nat) (E : Nat → Sem) (MC MS : Nat) (HX : Nat → Nat → Option Nat) (Q : Option Value → Mm → Prop) (X : Nat → Mm → Prop) (L : List Slot) (st : List Value) (M : Mm) (nc ns : Nat) : Run sa E MC MS HX Q X kX11_simulate 0 L st M nc ns = bk sa E MC MS HX (Run sa E MC MS HX Q X kX11_simulate) Q X kX11_simulate_0 L st M nc ns := Run_eq sa E MC MS HX Q X _ _ _ _ _ _ _
theorem rX11_simulate_39 (sa : Nat → Nat) (E : Nat → Sem) (MC MS : Nat) (HX : Nat → Nat → Option Nat) (Q : Option Value → Mm → Prop) (X : Nat → Mm → Prop) (L : List Slot) (st : List Value) (M : Mm) (nc ns : Nat) : Run sa E MC MS HX Q X kX11_simulate 39 L st M nc ns = bk sa E MC MS HX (Run sa E MC MS HX Q X kX11_simulate) Q X kX11_simulate_39 L st M nc ns := Run_eq sa E MC MS HX Q X _ _ _ _ _ _ _
theorem rX11_simulate_93 (sa : Nat → Nat) (E : Nat → Sem) (MC MS : Nat) (HX : Nat → Nat → Option Nat) (Q : Option Value → Mm → Prop) (X : Nat → Mm → Prop) (L : List Slot) (st : List Value) (M : Mm) (nc ns : Nat) : Run sa E MC MS HX Q X kX11_simulate 93 L st M nc ns = bk sa E MC MS HX (Run sa E MC MS HX Q X kX11_simulate) Q X kX11_simulate_93 L st M nc ns := Run_eq sa E MC MS HX Q X _ _ _ _ _ _ _
theorem rX11_simulate_100 (sa : Nat → Nat) (E : Nat → Sem) (MC MS : Nat) (HX : Nat → Nat → Option Nat) (Q : Option Value → Mm → Prop) (X : Nat → Mm → Prop) (L : List Slot) (st : List Value) (M : Mm) (nc ns : Nat) : Run sa E MC MS HX Q X kX11_simulate 100 L st M nc ns = bk sa E MC MS HX (Run sa E MC MS HX Q X kX11_simulate) Q X kX11_simulate_100 L st M nc ns := Run_eq sa E MC MS HX Q X _ _ _ _ _ _ _
theorem rX11_simulate_117 (sa : Nat → Nat) (E : Nat → Sem) (MC MS : Nat) (HX : Nat → Nat → Option Nat) (Q : Option Value → Mm → Prop) (X : Nat → Mm → Prop) (L : List Slot) (st : List Value) (M : Mm) (nc ns : Nat) : Run sa E MC MS HX Q X kX11_simulate 117 L st M nc ns = bk sa E MC MS HX (Run sa E MC MS HX Q X kX11_simulate) Q X kX11_simulate_117 L st M nc ns := Run_eq sa E MC MS HX Q X _ _ _ _ _ _ _
theorem rX11_simulate_131 (sa : Nat → Nat) (E : Nat → Sem) (MC MS : Nat) (HX : Nat → Nat → Option Nat) (Q : Option Value → Mm → Prop) (X : Nat → Mm → Prop) (L : List Slot) (st : List Value) (M : Mm) (nc ns : Nat) : Run sa E MC MS HX Q X kX11_simulate 131 L st M nc ns = bk sa E MC MS HX (Run sa E MC MS HX Q X kX11_simulate) Q X kX11_simulate_131 L st M nc ns := Run_eq sa E MC MS HX Q X _ _ _ _ _ _ _
theorem rX11_simulate_152 (sa : Nat → Nat) (E : Nat → Sem) (MC MS : Nat) (HX : Nat → Nat → Option Nat) (Q : Option Value → Mm → Prop) (X : Nat → Mm → Prop) (L : List Slot) (st : List Value) (M : Mm) (nc ns : Nat) : Run sa E MC MS HX Q X kX11_simulate 152 L st M nc ns = bk sa E MC MS HX (Run sa E MC MS HX Q X kX11_simulate) Q X kX11_simulate_152 L st M nc ns := Run_eq sa E MC MS HX Q X _ _ _ _ _ _ _
theorem rX11_simulate_181 (sa : Nat → Nat) (E : Nat → Sem) (MC MS : Nat) (HX : Nat → Nat → Option Nat) (Q : Option Value → Mm → Prop) (X : Nat → Mm → Prop) (L : List Slot) (st : List Value) (M : Mm) (nc ns : Nat) : Run sa E MC MS HX Q X kX11_simulate 181 L st M nc ns = bk sa E MC MS HX (Run sa E MC MS HX Q X kX11_simulate) Q X kX11_simulate_181 L st M nc ns := Run_eq sa E MC MS HX Q X _ _ _ _ _ _ _
theorem rX11_simulate_195 (sa : Nat → Nat) (E : Nat → Sem) (MC MS : Nat) (HX : Nat → Nat → Option Nat) (Q : Option Value → Mm → Prop) (X : Nat → Mm → Prop) (L : List Slot) (st : List Value) (M : Mm) (nc ns : Nat) : Run sa E MC MS HX Q X kX11_simulate 195 L st M nc ns = bk sa E MC MS HX (Run sa E MC MS HX Q X kX11_simulate) Q X kX11_simulate_195 L st M nc ns := Run_eq sa E MC MS HX Q X _ _ _ _ _ _ _
def kX11_statement_0 : List Item := [(0, .aload_n 0, 1, 3, 0, 0, 0, 0, [], .null),
    (1, .invokevirtual 72, 3, 48, 151, 1, 0, 0, [11], .null),
    (4, .pop, 1, 19, 0, 0, 0, 0, [], .null),
    (5, .aload_n 0, 1, 3, 0, 0, 0, 0, [], .null),
    (6, .getfield 51, 3, 24, 11, 4, 0, 0, [], .null),
    (9, .istore_n 1, 1, 4, 1, 0, 0, 0, [], .null),
    (10, .aload_n 0, 1, 3, 0, 0, 0, 0, [], .null),
    (11, .ldc 145, 2, 52, 0, 0, 0, 0, [], .null),
    (13, .invokevirtual 113, 3, 48, 174, 2, 0, 0, [11], .null),
    (16, .ifCond .eq 11, 3, 20, 27, 0, 0, 0, [], .null),
    (19, .aload_n 0, 1, 3, 0, 0, 0, 0, [], .null),
    (20, .iload_n 1, 1, 1, 1, 0, 0, 0, [], .null),
    (21, .invokevirtual 146, 3, 48, 160, 2, 0, 0, [11], .null),
    (24, .goto 78, 3, 22, 102, 0, 0, 0, [], .null)]
def kX11_statement_27 : List Item := [(27, .aload_n 0, 1, 3, 0, 0, 0, 0, [], .null),
    (28, .ldc 149, 2, 52, 3, 0, 0, 0, [], .null),
    (30, .invokevirtual 113, 3, 48, 174, 2, 0, 0, [11], .null),
    (33, .ifCond .eq 11, 3, 20, 44, 0, 0, 0, [], .null),
    (36, .aload_n 0, 1, 3, 0, 0, 0, 0, [], .null),
    (37, .iload_n 1, 1, 1, 1, 0, 0, 0, [], .null),
    (38, .invokevirtual 150, 3, 48, 161, 2, 0, 0, [11], .null),
    (41, .goto 61, 3, 22, 102, 0, 0, 0, [], .null)]
def kX11_statement_44 : List Item := [(44, .aload_n 0, 1, 3, 0, 0, 0, 0, [], .null),
    (45, .ldc 119, 2, 52, 5, 0, 0, 0, [], .null),
    (47, .invokevirtual 113, 3, 48, 174, 2, 0, 0, [11], .null),
    (50, .ifCond .eq 11, 3, 20, 61, 0, 0, 0, [], .null),
    (53, .aload_n 0, 1, 3, 0, 0, 0, 0, [], .null),
    (54, .iload_n 1, 1, 1, 1, 0, 0, 0, [], .null),
    (55, .invokevirtual 153, 3, 48, 164, 2, 0, 0, [11], .null),
    (58, .goto 44, 3, 22, 102, 0, 0, 0, [], .null)]
def kX11_statement_61 : List Item := [(61, .aload_n 0, 1, 3, 0, 0, 0, 0, [], .null),
    (62, .ldc 156, 2, 52, 6, 0, 0, 0, [], .null),
    (64, .invokevirtual 113, 3, 48, 174, 2, 0, 0, [11], .null),
    (67, .ifCond .eq 11, 3, 20, 78, 0, 0, 0, [], .null),
    (70, .aload_n 0, 1, 3, 0, 0, 0, 0, [], .null),
    (71, .iload_n 1, 1, 1, 1, 0, 0, 0, [], .null),
    (72, .invokevirtual 158, 3, 48, 162, 2, 0, 0, [11], .null),
    (75, .goto 27, 3, 22, 102, 0, 0, 0, [], .null)]
def kX11_statement_78 : List Item := [(78, .aload_n 0, 1, 3, 0, 0, 0, 0, [], .null),
    (79, .ldc 161, 2, 52, 7, 0, 0, 0, [], .null),
    (81, .invokevirtual 113, 3, 48, 174, 2, 0, 0, [11], .null),
    (84, .ifCond .eq 11, 3, 20, 95, 0, 0, 0, [], .null),
    (87, .aload_n 0, 1, 3, 0, 0, 0, 0, [], .null),
    (88, .iload_n 1, 1, 1, 1, 0, 0, 0, [], .null),
    (89, .invokevirtual 163, 3, 48, 163, 2, 0, 0, [11], .null),
    (92, .goto 10, 3, 22, 102, 0, 0, 0, [], .null)]
def kX11_statement_95 : List Item := [(95, .aload_n 0, 1, 3, 0, 0, 0, 0, [], .null),
    (96, .bipush (-2), 2, 0, 0, 0, 0, 0, [], .int (-2)),
    (98, .iload_n 1, 1, 1, 1, 0, 0, 0, [], .null),
    (99, .invokevirtual 85, 3, 48, 166, 3, 0, 0, [11], .null),
    (102, .aload_n 0, 1, 3, 0, 0, 0, 0, [], .null),
    (103, .bipush 59, 2, 0, 0, 0, 0, 0, [], .int 59),
    (105, .invokevirtual 107, 3, 48, 126, 2, 0, 0, [11], .null),
    (108, .aload_n 0, 1, 3, 0, 0, 0, 0, [], .null),
    (109, .dup, 1, 16, 0, 0, 0, 0, [], .null),
    (110, .getfield 166, 3, 24, 11, 15, 0, 0, [], .null),
    (113, .iconst 1, 1, 0, 0, 0, 0, 0, [], .int 1),
    (114, .iadd, 1, 8, 0, 0, 0, 0, [], .null),
    (115, .putfield 166, 3, 27, 11, 15, 0, 0, [], .null),
    (118, .return_, 1, 55, 0, 0, 0, 0, [], .null)]
def kX11_statement_102 : List Item := [(102, .aload_n 0, 1, 3, 0, 0, 0, 0, [], .null),
    (103, .bipush 59, 2, 0, 0, 0, 0, 0, [], .int 59),
    (105, .invokevirtual 107, 3, 48, 126, 2, 0, 0, [11], .null),
    (108, .aload_n 0, 1, 3, 0, 0, 0, 0, [], .null),
    (109, .dup, 1, 16, 0, 0, 0, 0, [], .null),
    (110, .getfield 166, 3, 24, 11, 15, 0, 0, [], .null),
    (113, .iconst 1, 1, 0, 0, 0, 0, 0, [], .int 1),
    (114, .iadd, 1, 8, 0, 0, 0, 0, [], .null),
    (115, .putfield 166, 3, 27, 11, 15, 0, 0, [], .null),
    (118, .return_, 1, 55, 0, 0, 0, 0, [], .null)]
def kX11_statement : Code9 := [(0, kX11_statement_0), (27, kX11_statement_27), (44, kX11_statement_44), (61, kX11_statement_61), (78, kX11_statement_78), (95, kX11_statement_95), (102, kX11_statement_102)]
theorem rX11_statement_0 (sa : Nat → Nat) (E : Nat → Sem) (MC MS : Nat) (HX : Nat → Nat → Option Nat) (Q : Option Value → Mm → Prop) (X : Nat → Mm → Prop) (L : List Slot) (st : List Value) (M : Mm) (nc ns : Nat) : Run sa E MC MS HX Q X kX11_statement 0 L st M nc ns = bk sa E MC MS HX (Run sa E MC MS HX Q X kX11_statement) Q X kX11_statement_0 L st M nc ns := Run_eq sa E MC MS HX Q X _ _ _ _ _ _ _
theorem rX11_statement_27 (sa : Nat → Nat) (E : Nat → Sem) (MC MS : Nat) (HX : Nat → Nat → Option Nat) (Q : Option Value → Mm → Prop) (X : Nat → Mm → Prop) (L : List Slot) (st : List Value) (M : Mm) (nc ns : Nat) : Run sa E MC MS HX Q X kX11_statement 27 L st M nc ns = bk sa E MC MS HX (Run sa E MC MS HX Q X kX11_statement) Q X kX11_statement_27 L st M nc ns := Run_eq sa E MC MS HX Q X _ _ _ _ _ _ _
theorem rX11_statement_44 (sa : Nat → Nat) (E : Nat → Sem) (MC MS : Nat) (HX : Nat → Nat → Option Nat) (Q : Option Value → Mm → Prop) (X : Nat → Mm → Prop) (L : List Slot) (st : List Value) (M : Mm) (nc ns : Nat) : Run sa E MC MS HX Q X kX11_statement 44 L st M nc ns = bk sa E MC MS HX (Run sa E MC MS HX Q X kX11_statement) Q X kX11_statement_44 L st M nc ns := Run_eq sa E MC MS HX Q X _ _ _ _ _ _ _
theorem rX11_statement_61 (sa : Nat → Nat) (E : Nat → Sem) (MC MS : Nat) (HX : Nat → Nat → Option Nat) (Q : Option Value → Mm → Prop) (X : Nat → Mm → Prop) (L : List Slot) (st : List Value) (M : Mm) (nc ns : Nat) : Run sa E MC MS HX Q X kX11_statement 61 L st M nc ns = bk sa E MC MS HX (Run sa E MC MS HX Q X kX11_statement) Q X kX11_statement_61 L st M nc ns := Run_eq sa E MC MS HX Q X _ _ _ _ _ _ _
theorem rX11_statement_78 (sa : Nat → Nat) (E : Nat → Sem) (MC MS : Nat) (HX : Nat → Nat → Option Nat) (Q : Option Value → Mm → Prop) (X : Nat → Mm → Prop) (L : List Slot) (st : List Value) (M : Mm) (nc ns : Nat) : Run sa E MC MS HX Q X kX11_statement 78 L st M nc ns = bk sa E MC MS HX (Run sa E MC MS HX Q X kX11_statement) Q X kX11_statement_78 L st M nc ns := Run_eq sa E MC MS HX Q X _ _ _ _ _ _ _
theorem rX11_statement_95 (sa : Nat → Nat) (E : Nat → Sem) (MC MS : Nat) (HX : Nat → Nat → Option Nat) (Q : Option Value → Mm → Prop) (X : Nat → Mm → Prop) (L : List Slot) (st : List Value) (M : Mm) (nc ns : Nat) : Run sa E MC MS HX Q X kX11_statement 95 L st M nc ns = bk sa E MC MS HX (Run sa E MC MS HX Q X kX11_statement) Q X kX11_statement_95 L st M nc ns := Run_eq sa E MC MS HX Q X _ _ _ _ _ _ _
theorem rX11_statement_102 (sa : Nat → Nat) (E : Nat → Sem) (MC MS : Nat) (HX : Nat → Nat → Option Nat) (Q : Option Value → Mm → Prop) (X : Nat → Mm → Prop) (L : List Slot) (st : List Value) (M : Mm) (nc ns : Nat) : Run sa E MC MS HX Q X kX11_statement 102 L st M nc ns = bk sa E MC MS HX (Run sa E MC MS HX Q X kX11_statement) Q X kX11_statement_102 L st M nc ns := Run_eq sa E MC MS HX Q X _ _ _ _ _ _ _
def kX11_stolen_0 : List Item := [(0, .aload_n 0, 1, 3, 0, 0, 0, 0, [], .null),
    (1, .iconst 0, 1, 0, 0, 0, 0, 0, [], .int 0),
    (2, .putfield 42, 3, 27, 11, 0, 0, 0, [], .null),
    (5, .aload_n 0, 1, 3, 0, 0, 0, 0, [], .null),
    (6, .iload_n 1, 1, 1, 1, 0, 0, 0, [], .null),
    (7, .invokevirtual 239, 3, 48, 153, 2, 0, 0, [11], .null),
    (10, .ifCond .eq 7, 3, 20, 17, 0, 0, 0, [], .null),
    (13, .iconst 0, 1, 0, 0, 0, 0, 0, [], .int 0),
    (14, .goto 15, 3, 22, 29, 0, 0, 0, [], .null)]
def kX11_stolen_17 : List Item := [(17, .aload_n 0, 1, 3, 0, 0, 0, 0, [], .null),
    (18, .getfield 17, 3, 26, 11, 8, 0, 0, [], .null),
    (21, .iload_n 1, 1, 1, 1, 0, 0, 0, [], .null),
    (22, .invokestatic 140, 3, 48, 131, 1, 0, 0, [], .null),
    (25, .bipush 9, 2, 0, 0, 0, 0, 0, [], .int 9),
    (27, .iadd, 1, 8, 0, 0, 0, 0, [], .null),
    (28, .iaload, 1, 31, 0, 0, 0, 0, [], .null),
    (29, .ireturn, 1, 56, 0, 0, 0, 0, [], .null)]
def kX11_stolen_29 : List Item := [(29, .ireturn, 1, 56, 0, 0, 0, 0, [], .null)]
def kX11_stolen : Code9 := [(0, kX11_stolen_0), (17, kX11_stolen_17), (29, kX11_stolen_29)]
theorem rX11_stolen_0 (sa : Nat → Nat) (E : Nat → Sem) (MC MS : Nat) (HX : Nat → Nat → Option Nat) (Q : Option Value → Mm → Prop) (X : Nat → Mm → Prop) (L : List Slot) (st : List Value) (M : Mm) (nc ns : Nat) : Run sa E MC MS HX Q X kX11_stolen 0 L st M nc ns = bk sa E MC MS HX (Run sa E MC MS HX Q X kX11_stolen) Q X kX11_stolen_0 L st M nc ns := Run_eq sa E MC MS HX Q X _ _ _ _ _ _ _
theorem rX11_stolen_17 (sa : Nat → Nat) (E : Nat → Sem) (MC MS : Nat) (HX : Nat → Nat → Option Nat) (Q : Option Value → Mm → Prop) (X : Nat → Mm → Prop) (L : List Slot) (st : List Value) (M : Mm) (nc ns : Nat) : Run sa E MC MS HX Q X kX11_stolen 17 L st M nc ns = bk sa E MC MS HX (Run sa E MC MS HX Q X kX11_stolen) Q X kX11_stolen_17 L st M nc ns := Run_eq sa E MC MS HX Q X _ _ _ _ _ _ _
theorem rX11_stolen_29 (sa : Nat → Nat) (E : Nat → Sem) (MC MS : Nat) (HX : Nat → Nat → Option Nat) (Q : Option Value → Mm → Prop) (X : Nat → Mm → Prop) (L : List Slot) (st : List Value) (M : Mm) (nc ns : Nat) : Run sa E MC MS HX Q X kX11_stolen 29 L st M nc ns = bk sa E MC MS HX (Run sa E MC MS HX Q X kX11_stolen) Q X kX11_stolen_29 L st M nc ns := Run_eq sa E MC MS HX Q X _ _ _ _ _ _ _
def kX11_sum_0 (d : Nat) : List Item := [(0, .aload_n 0, 1, 3, 0, 0, 0, 0, [], .null),
    (1, .invokevirtual 130, 3, 48, 177 + 1000 * d, 1, 0, 0, [11], .null),
    (4, .nop, 0, 60, 4, 0, 0, 0, [], .null)]
def kX11_sum_4 (d : Nat) : List Item := [(4, .aload_n 0, 1, 3, 0, 0, 0, 0, [], .null),
    (5, .invokevirtual 68, 3, 48, 146, 1, 0, 0, [11], .null),
    (8, .ifCond .eq 66, 3, 20, 74, 0, 0, 0, [], .null),
    (11, .aload_n 0, 1, 3, 0, 0, 0, 0, [], .null),
    (12, .invokevirtual 72, 3, 48, 151, 1, 0, 0, [11], .null),
    (15, .bipush 43, 2, 0, 0, 0, 0, 0, [], .int 43),
    (17, .if_icmp .eq 12, 3, 21, 29, 0, 0, 0, [], .null),
    (20, .aload_n 0, 1, 3, 0, 0, 0, 0, [], .null),
    (21, .invokevirtual 72, 3, 48, 151, 1, 0, 0, [11], .null),
    (24, .bipush 45, 2, 0, 0, 0, 0, 0, [], .int 45),
    (26, .if_icmp .ne 48, 3, 21, 74, 1, 0, 0, [], .null),
    (29, .aload_n 0, 1, 3, 0, 0, 0, 0, [], .null),
    (30, .invokevirtual 72, 3, 48, 151, 1, 0, 0, [11], .null),
    (33, .bipush 43, 2, 0, 0, 0, 0, 0, [], .int 43),
    (35, .if_icmp .ne 7, 3, 21, 42, 1, 0, 0, [], .null),
    (38, .iconst 1, 1, 0, 0, 0, 0, 0, [], .int 1),
    (39, .goto 4, 3, 22, 43, 0, 0, 0, [], .null)]
def kX11_sum_29 (d : Nat) : List Item := [(29, .aload_n 0, 1, 3, 0, 0, 0, 0, [], .null),
    (30, .invokevirtual 72, 3, 48, 151, 1, 0, 0, [11], .null),
    (33, .bipush 43, 2, 0, 0, 0, 0, 0, [], .int 43),
    (35, .if_icmp .ne 7, 3, 21, 42, 1, 0, 0, [], .null),
    (38, .iconst 1, 1, 0, 0, 0, 0, 0, [], .int 1),
    (39, .goto 4, 3, 22, 43, 0, 0, 0, [], .null)]
def kX11_sum_42 (d : Nat) : List Item := [(42, .iconst 0, 1, 0, 0, 0, 0, 0, [], .int 0),
    (43, .istore_n 1, 1, 4, 1, 0, 0, 0, [], .null),
    (44, .aload_n 0, 1, 3, 0, 0, 0, 0, [], .null),
    (45, .dup, 1, 16, 0, 0, 0, 0, [], .null),
    (46, .getfield 51, 3, 24, 11, 4, 0, 0, [], .null),
    (49, .iconst 1, 1, 0, 0, 0, 0, 0, [], .int 1),
    (50, .iadd, 1, 8, 0, 0, 0, 0, [], .null),
    (51, .putfield 51, 3, 27, 11, 4, 0, 0, [], .null),
    (54, .aload_n 0, 1, 3, 0, 0, 0, 0, [], .null),
    (55, .invokevirtual 130, 3, 48, 177 + 1000 * d, 1, 0, 0, [11], .null),
    (58, .aload_n 0, 1, 3, 0, 0, 0, 0, [], .null),
    (59, .iload_n 1, 1, 1, 1, 0, 0, 0, [], .null),
    (60, .ifCond .eq 7, 3, 20, 67, 0, 0, 0, [], .null),
    (63, .iconst 2, 1, 0, 0, 0, 0, 0, [], .int 2),
    (64, .goto 4, 3, 22, 68, 0, 0, 0, [], .null)]
def kX11_sum_43 (d : Nat) : List Item := [(43, .istore_n 1, 1, 4, 1, 0, 0, 0, [], .null),
    (44, .aload_n 0, 1, 3, 0, 0, 0, 0, [], .null),
    (45, .dup, 1, 16, 0, 0, 0, 0, [], .null),
    (46, .getfield 51, 3, 24, 11, 4, 0, 0, [], .null),
    (49, .iconst 1, 1, 0, 0, 0, 0, 0, [], .int 1),
    (50, .iadd, 1, 8, 0, 0, 0, 0, [], .null),
    (51, .putfield 51, 3, 27, 11, 4, 0, 0, [], .null),
    (54, .aload_n 0, 1, 3, 0, 0, 0, 0, [], .null),
    (55, .invokevirtual 130, 3, 48, 177 + 1000 * d, 1, 0, 0, [11], .null),
    (58, .aload_n 0, 1, 3, 0, 0, 0, 0, [], .null),
    (59, .iload_n 1, 1, 1, 1, 0, 0, 0, [], .null),
    (60, .ifCond .eq 7, 3, 20, 67, 0, 0, 0, [], .null),
    (63, .iconst 2, 1, 0, 0, 0, 0, 0, [], .int 2),
    (64, .goto 4, 3, 22, 68, 0, 0, 0, [], .null)]
def kX11_sum_67 (d : Nat) : List Item := [(67, .iconst 3, 1, 0, 0, 0, 0, 0, [], .int 3),
    (68, .invokevirtual 124, 3, 48, 123, 2, 0, 0, [11], .null),
    (71, .goto (-67), 3, 22, 4, 0, 0, 0, [], .null)]
def kX11_sum_68 (d : Nat) : List Item := [(68, .invokevirtual 124, 3, 48, 123, 2, 0, 0, [11], .null),
    (71, .goto (-67), 3, 22, 4, 0, 0, 0, [], .null)]
def kX11_sum_74 (d : Nat) : List Item := [(74, .return_, 1, 55, 0, 0, 0, 0, [], .null)]
def kX11_sum (d : Nat) : Code9 := [(0, kX11_sum_0 d), (4, kX11_sum_4 d), (29, kX11_sum_29 d), (42, kX11_sum_42 d), (43, kX11_sum_43 d), (67, kX11_sum_67 d), (68, kX11_sum_68 d), (74, kX11_sum_74 d)]
theorem rX11_sum_0 (sa : Nat → Nat) (E : Nat → Sem) (MC MS : Nat) (HX : Nat → Nat → Option Nat) (Q : Option Value → Mm → Prop) (X : Nat → Mm → Prop) (d : Nat) (L : List Slot) (st : List Value) (M : Mm) (nc ns : Nat) : Run sa E MC MS HX Q X (kX11_sum d) 0 L st M nc ns = bk sa E MC MS HX (Run sa E MC MS HX Q X (kX11_sum d)) Q X (kX11_sum_0 d) L st M nc ns := Run_eq sa E MC MS HX Q X _ _ _ _ _ _ _
theorem rX11_sum_4 (sa : Nat → Nat) (E : Nat → Sem) (MC MS : Nat) (HX : Nat → Nat → Option Nat) (Q : Option Value → Mm → Prop) (X : Nat → Mm → Prop) (d : Nat) (L : List Slot) (st : List Value) (M : Mm) (nc ns : Nat) : Run sa E MC MS HX Q X (kX11_sum d) 4 L st M nc ns = bk sa E MC MS HX (Run sa E MC MS HX Q X (kX11_sum d)) Q X (kX11_sum_4 d) L st M nc ns := Run_eq sa E MC MS HX Q X _ _ _ _ _ _ _
theorem rX11_sum_29 (sa : Nat → Nat) (E : Nat → Sem) (MC MS : Nat) (HX : Nat → Nat → Option Nat) (Q : Option Value → Mm → Prop) (X : Nat → Mm → Prop) (d : Nat) (L : List Slot) (st : List Value) (M : Mm) (nc ns : Nat) : Run sa E MC MS HX Q X (kX11_sum d) 29 L st M nc ns = bk sa E MC MS HX (Run sa E MC MS HX Q X (kX11_sum d)) Q X (kX11_sum_29 d) L st M nc ns := Run_eq sa E MC MS HX Q X _ _ _ _ _ _ _
theorem rX11_sum_42 (sa : Nat → Nat) (E : Nat → Sem) (MC MS : Nat) (HX : Nat → Nat → Option Nat) (Q : Option Value → Mm → Prop) (X : Nat → Mm → Prop) (d : Nat) (L : List Slot) (st : List Value) (M : Mm) (nc ns : Nat) : Run sa E MC MS HX Q X (kX11_sum d) 42 L st M nc ns = bk sa E MC MS HX (Run sa E MC MS HX Q X (kX11_sum d)) Q X (kX11_sum_42 d) L st M nc ns := Run_eq sa E MC MS HX Q X _ _ _ _ _ _ _
theorem rX11_sum_43 (sa : Nat → Nat) (E : Nat → Sem) (MC MS : Nat) (HX : Nat → Nat → Option Nat) (Q : Option Value → Mm → Prop) (X : Nat → Mm → Prop) (d : Nat) (L : List Slot) (st : List Value) (M : Mm) (nc ns : Nat) : Run sa E MC MS HX Q X (kX11_sum d) 43 L st M nc ns = bk sa E MC MS HX (Run sa E MC MS HX Q X (kX11_sum d)) Q X (kX11_sum_43 d) L st M nc ns := Run_eq sa E MC MS HX Q X _ _ _ _ _ _ _
theorem rX11_sum_67 (sa : Nat → Nat) (E : Nat → Sem) (MC MS : Nat) (HX : Nat → Nat → Option Nat) (Q : Option Value → Mm → Prop) (X : Nat → Mm → Prop) (d : Nat) (L : List Slot) (st : List Value) (M : Mm) (nc ns : Nat) : Run sa E MC MS HX Q X (kX11_sum d) 67 L st M nc ns = bk sa E MC MS HX (Run sa E MC MS HX Q X (kX11_sum d)) Q X (kX11_sum_67 d) L st M nc ns := Run_eq sa E MC MS HX Q X _ _ _ _ _ _ _
theorem rX11_sum_68 (sa : Nat → Nat) (E : Nat → Sem) (MC MS : Nat) (HX : Nat → Nat → Option Nat) (Q : Option Value → Mm → Prop) (X : Nat → Mm → Prop) (d : Nat) (L : List Slot) (st : List Value) (M : Mm) (nc ns : Nat) : Run sa E MC MS HX Q X (kX11_sum d) 68 L st M nc ns = bk sa E MC MS HX (Run sa E MC MS HX Q X (kX11_sum d)) Q X (kX11_sum_68 d) L st M nc ns := Run_eq sa E MC MS HX Q X _ _ _ _ _ _ _
theorem rX11_sum_74 (sa : Nat → Nat) (E : Nat → Sem) (MC MS : Nat) (HX : Nat → Nat → Option Nat) (Q : Option Value → Mm → Prop) (X : Nat → Mm → Prop) (d : Nat) (L : List Slot) (st : List Value) (M : Mm) (nc ns : Nat) : Run sa E MC MS HX Q X (kX11_sum d) 74 L st M nc ns = bk sa E MC MS HX (Run sa E MC MS HX Q X (kX11_sum d)) Q X (kX11_sum_74 d) L st M nc ns := Run_eq sa E MC MS HX Q X _ _ _ _ _ _ _
def kX11_suspect_0 : List Item := [(0, .aload_n 0, 1, 3, 0, 0, 0, 0, [], .null),
    (1, .iconst 0, 1, 0, 0, 0, 0, 0, [], .int 0),
    (2, .putfield 42, 3, 27, 11, 0, 0, 0, [], .null),
    (5, .aload_n 0, 1, 3, 0, 0, 0, 0, [], .null),
    (6, .iload_n 1, 1, 1, 1, 0, 0, 0, [], .null),
    (7, .invokevirtual 236, 3, 48, 152, 2, 0, 0, [11], .null),
    (10, .ifCond .ne 26, 3, 20, 36, 1, 0, 0, [], .null),
    (13, .aload_n 0, 1, 3, 0, 0, 0, 0, [], .null),
    (14, .iload_n 2, 1, 1, 2, 0, 0, 0, [], .null),
    (15, .iconst 1, 1, 0, 0, 0, 0, 0, [], .int 1),
    (16, .bipush 50, 2, 0, 0, 0, 0, 0, [], .int 50),
    (18, .invokestatic 64, 3, 48, 139, 3, 0, 0, [], .null),
    (21, .ifCond .ne 7, 3, 20, 28, 1, 0, 0, [], .null),
    (24, .iconst 1, 1, 0, 0, 0, 0, 0, [], .int 1),
    (25, .goto 4, 3, 22, 29, 0, 0, 0, [], .null)]
def kX11_suspect_28 : List Item := [(28, .iconst 0, 1, 0, 0, 0, 0, 0, [], .int 0),
    (29, .iconst 2, 1, 0, 0, 0, 0, 0, [], .int 2),
    (30, .invokevirtual 169, 3, 48, 129, 3, 0, 0, [11], .null),
    (33, .ifCond .eq 5, 3, 20, 38, 0, 0, 0, [], .null),
    (36, .iconst 0, 1, 0, 0, 0, 0, 0, [], .int 0),
    (37, .ireturn, 1, 56, 0, 0, 0, 0, [], .null)]
def kX11_suspect_29 : List Item := [(29, .iconst 2, 1, 0, 0, 0, 0, 0, [], .int 2),
    (30, .invokevirtual 169, 3, 48, 129, 3, 0, 0, [11], .null),
    (33, .ifCond .eq 5, 3, 20, 38, 0, 0, 0, [], .null),
    (36, .iconst 0, 1, 0, 0, 0, 0, 0, [], .int 0),
    (37, .ireturn, 1, 56, 0, 0, 0, 0, [], .null)]
def kX11_suspect_36 : List Item := [(36, .iconst 0, 1, 0, 0, 0, 0, 0, [], .int 0),
    (37, .ireturn, 1, 56, 0, 0, 0, 0, [], .null)]
def kX11_suspect_38 : List Item := [(38, .aload_n 0, 1, 3, 0, 0, 0, 0, [], .null),
    (39, .getfield 17, 3, 26, 11, 8, 0, 0, [], .null),
    (42, .aload_n 0, 1, 3, 0, 0, 0, 0, [], .null),
    (43, .getfield 23, 3, 26, 11, 10, 0, 0, [], .null),
    (46, .invokestatic 179, 3, 48, 117, 2, 0, 0, [], .null),
    (49, .aload_n 0, 1, 3, 0, 0, 0, 0, [], .null),
    (50, .iload_n 1, 1, 1, 1, 0, 0, 0, [], .null),
    (51, .iload_n 2, 1, 1, 2, 0, 0, 0, [], .null),
    (52, .invokevirtual 251, 3, 48, 111, 3, 0, 0, [11], .null),
    (55, .iload_n 3, 1, 1, 3, 0, 0, 0, [], .null),
    (56, .if_icmp .ne 6, 3, 21, 62, 1, 0, 0, [], .null),
    (59, .bipush (-2), 2, 0, 0, 0, 0, 0, [], .int (-2)),
    (61, .ireturn, 1, 56, 0, 0, 0, 0, [], .null)]
def kX11_suspect_62 : List Item := [(62, .iconst 0, 1, 0, 0, 0, 0, 0, [], .int 0),
    (63, .istore 4, 2, 4, 4, 0, 0, 0, [], .null),
    (65, .nop, 0, 60, 65, 0, 0, 0, [], .null)]
def kX11_suspect_65 : List Item := [(65, .iload 4, 2, 1, 4, 0, 0, 0, [], .null),
    (67, .aload_n 0, 1, 3, 0, 0, 0, 0, [], .null),
    (68, .getfield 17, 3, 26, 11, 8, 0, 0, [], .null),
    (71, .iconst 1, 1, 0, 0, 0, 0, 0, [], .int 1),
    (72, .iaload, 1, 31, 0, 0, 0, 0, [], .null),
    (73, .if_icmp .ge 67, 3, 21, 140, 3, 0, 0, [], .null),
    (76, .aload_n 0, 1, 3, 0, 0, 0, 0, [], .null),
    (77, .getfield 17, 3, 26, 11, 8, 0, 0, [], .null),
    (80, .iload 4, 2, 1, 4, 0, 0, 0, [], .null),
    (82, .invokestatic 140, 3, 48, 131, 1, 0, 0, [], .null),
    (85, .bipush 10, 2, 0, 0, 0, 0, 0, [], .int 10),
    (87, .iadd, 1, 8, 0, 0, 0, 0, [], .null),
    (88, .iaload, 1, 31, 0, 0, 0, 0, [], .null),
    (89, .iconst 1, 1, 0, 0, 0, 0, 0, [], .int 1),
    (90, .if_icmp .ne 6, 3, 21, 96, 1, 0, 0, [], .null),
    (93, .goto 41, 3, 22, 134, 0, 0, 0, [], .null)]
def kX11_suspect_96 : List Item := [(96, .aload_n 0, 1, 3, 0, 0, 0, 0, [], .null),
    (97, .getfield 17, 3, 26, 11, 8, 0, 0, [], .null),
    (100, .aload_n 0, 1, 3, 0, 0, 0, 0, [], .null),
    (101, .getfield 23, 3, 26, 11, 10, 0, 0, [], .null),
    (104, .invokestatic 179, 3, 48, 117, 2, 0, 0, [], .null),
    (107, .aload_n 0, 1, 3, 0, 0, 0, 0, [], .null),
    (108, .getfield 23, 3, 26, 11, 10, 0, 0, [], .null),
    (111, .iload 4, 2, 1, 4, 0, 0, 0, [], .null),
    (113, .invokestatic 140, 3, 48, 131, 1, 0, 0, [], .null),
    (116, .bipush 10, 2, 0, 0, 0, 0, 0, [], .int 10),
    (118, .iadd, 1, 8, 0, 0, 0, 0, [], .null),
    (119, .iconst 1, 1, 0, 0, 0, 0, 0, [], .int 1),
    (120, .iastore, 1, 35, 0, 0, 0, 0, [], .null),
    (121, .aload_n 0, 1, 3, 0, 0, 0, 0, [], .null),
    (122, .iload_n 1, 1, 1, 1, 0, 0, 0, [], .null),
    (123, .iload_n 2, 1, 1, 2, 0, 0, 0, [], .null),
    (124, .invokevirtual 251, 3, 48, 111, 3, 0, 0, [11], .null),
    (127, .iload_n 3, 1, 1, 3, 0, 0, 0, [], .null),
    (128, .if_icmp .ne 6, 3, 21, 134, 1, 0, 0, [], .null),
    (131, .iload 4, 2, 1, 4, 0, 0, 0, [], .null),
    (133, .ireturn, 1, 56, 0, 0, 0, 0, [], .null)]
def kX11_suspect_134 : List Item := [(134, .iinc 4 1, 3, 7, 4, 0, 0, 0, [], .int 1),
    (137, .goto (-72), 3, 22, 65, 0, 0, 0, [], .null)]
def kX11_suspect_140 : List Item := [(140, .iconst (-1), 1, 0, 0, 0, 0, 0, [], .int (-1)),
    (141, .ireturn, 1, 56, 0, 0, 0, 0, [], .null)]
def kX11_suspect : Code9 := [(0, kX11_suspect_0), (28, kX11_suspect_28), (29, kX11_suspect_29), (36, kX11_suspect_36), (38, kX11_suspect_38), (62, kX11_suspect_62), (65, kX11_suspect_65), (96, kX11_suspect_96), (134, kX11_suspect_134), (140, kX11_suspect_140)]
theorem rX11_suspect_0 (sa : Nat → Nat) (E : Nat → Sem) (MC MS : Nat) (HX : Nat → Nat → Option Nat) (Q : Option Value → Mm → Prop) (X : Nat → Mm → Prop) (L : List Slot) (st : List Value) (M : Mm) (nc ns : Nat) : Run sa E MC MS HX Q X kX11_suspect 0 L st M nc ns = bk sa E MC MS HX (Run sa E MC MS HX Q X kX11_suspect) Q X kX11_suspect_0 L st M nc ns := Run_eq sa E MC MS HX Q X _ _ _ _ _ _ _
theorem rX11_suspect_28 (sa : Nat → Nat) (E : Nat → Sem) (MC MS : Nat) (HX : Nat → Nat → Option Nat) (Q : Option Value → Mm → Prop) (X : Nat → Mm → Prop) (L : List Slot) (st : List Value) (M : Mm) (nc ns : Nat) : Run sa E MC MS HX Q X kX11_suspect 28 L st M nc ns = bk sa E MC MS HX (Run sa E MC MS HX Q X kX11_suspect) Q X kX11_suspect_28 L st M nc ns := Run_eq sa E MC MS HX Q X _ _ _ _ _ _ _
theorem rX11_suspect_29 (sa : Nat → Nat) (E : Nat → Sem) (MC MS : Nat) (HX : Nat → Nat → Option Nat) (Q : Option Value → Mm → Prop) (X : Nat → Mm → Prop) (L : List Slot) (st : List Value) (M : Mm) (nc ns : Nat) : Run sa E MC MS HX Q X kX11_suspect 29 L st M nc ns = bk sa E MC MS HX (Run sa E MC MS HX Q X kX11_suspect) Q X kX11_suspect_29 L st M nc ns := Run_eq sa E MC MS HX Q X _ _ _ _ _ _ _
theorem rX11_suspect_36 (sa : Nat → Nat) (E : Nat → Sem) (MC MS : Nat) (HX : Nat → Nat → Option Nat) (Q : Option Value → Mm → Prop) (X : Nat → Mm → Prop) (L : List Slot) (st : List Value) (M : Mm) (nc ns : Nat) : Run sa E MC MS HX Q X kX11_suspect 36 L st M nc ns = bk sa E MC MS HX (Run sa E MC MS HX Q X kX11_suspect) Q X kX11_suspect_36 L st M nc ns := Run_eq sa E MC MS HX Q X _ _ _ _ _ _ _
theorem rX11_suspect_38 (sa : Nat → Nat) (E : Nat → Sem) (MC MS : Nat) (HX : Nat → Nat → Option Nat) (Q : Option Value → Mm → Prop) (X : Nat → Mm → Prop) (L : List Slot) (st : List Value) (M : Mm) (nc ns : Nat) : Run sa E MC MS HX Q X kX11_suspect 38 L st M nc ns = bk sa E MC MS HX (Run sa E MC MS HX Q X kX11_suspect) Q X kX11_suspect_38 L st M nc ns := Run_eq sa E MC MS HX Q X _ _ _ _ _ _ _
theorem rX11_suspect_62 (sa : Nat → Nat) (E : Nat → Sem) (MC MS : Nat) (HX : Nat → Nat → Option Nat) (Q : Option Value → Mm → Prop) (X : Nat → Mm → Prop) (L : List Slot) (st : List Value) (M : Mm) (nc ns : Nat) : Run sa E MC MS HX Q X kX11_suspect 62 L st M nc ns = bk sa E MC MS HX (Run sa E MC MS HX Q X kX11_suspect) Q X kX11_suspect_62 L st M nc ns := Run_eq sa E MC MS HX Q X _ _ _ _ _ _ _
theorem rX11_suspect_65 (sa : Nat → Nat) (E : Nat → Sem) (MC MS : Nat) (HX : Nat → Nat → Option Nat) (Q : Option Value → Mm → Prop) (X : Nat → Mm → Prop) (L : List Slot) (st : List Value) (M : Mm) (nc ns : Nat) : Run sa E MC MS HX Q X kX11_suspect 65 L st M nc ns = bk sa E MC MS HX (Run sa E MC MS HX Q X kX11_suspect) Q X kX11_suspect_65 L st M nc ns := Run_eq sa E MC MS HX Q X _ _ _ _ _ _ _
theorem rX11_suspect_96 (sa : Nat → Nat) (E : Nat → Sem) (MC MS : Nat) (HX : Nat → Nat → Option Nat) (Q : Option Value → Mm → Prop) (X : Nat → Mm → Prop) (L : List Slot) (st : List Value) (M : Mm) (nc ns : Nat) : Run sa E MC MS HX Q X kX11_suspect 96 L st M nc ns = bk sa E MC MS HX (Run sa E MC MS HX Q X kX11_suspect) Q X kX11_suspect_96 L st M nc ns := Run_eq sa E MC MS HX Q X _ _ _ _ _ _ _
theorem rX11_suspect_134 (sa : Nat → Nat) (E : Nat → Sem) (MC MS : Nat) (HX : Nat → Nat → Option Nat) (Q : Option Value → Mm → Prop) (X : Nat → Mm → Prop) (L : List Slot) (st : List Value) (M : Mm) (nc ns : Nat) : Run sa E MC MS HX Q X kX11_suspect 134 L st M nc ns = bk sa E MC MS HX (Run sa E MC MS HX Q X kX11_suspect) Q X kX11_suspect_134 L st M nc ns := Run_eq sa E MC MS HX Q X _ _ _ _ _ _ _
theorem rX11_suspect_140 (sa : Nat → Nat) (E : Nat → Sem) (MC MS : Nat) (HX : Nat → Nat → Option Nat) (Q : Option Value → Mm → Prop) (X : Nat → Mm → Prop) (L : List Slot) (st : List Value) (M : Mm) (nc ns : Nat) : Run sa E MC MS HX Q X kX11_suspect 140 L st M nc ns = bk sa E MC MS HX (Run sa E MC MS HX Q X kX11_suspect) Q X kX11_suspect_140 L st M nc ns := Run_eq sa E MC MS HX Q X _ _ _ _ _ _ _
def kX11_swapTurns_0 : List Item := [(0, .aload_n 0, 1, 3, 0, 0, 0, 0, [], .null),
    (1, .iconst 0, 1, 0, 0, 0, 0, 0, [], .int 0),
    (2, .putfield 42, 3, 27, 11, 0, 0, 0, [], .null),
    (5, .aload_n 0, 1, 3, 0, 0, 0, 0, [], .null),
    (6, .iload_n 1, 1, 1, 1, 0, 0, 0, [], .null),
    (7, .iconst 0, 1, 0, 0, 0, 0, 0, [], .int 0),
    (8, .aload_n 0, 1, 3, 0, 0, 0, 0, [], .null),
    (9, .getfield 17, 3, 26, 11, 8, 0, 0, [], .null),
    (12, .iconst 2, 1, 0, 0, 0, 0, 0, [], .int 2),
    (13, .iaload, 1, 31, 0, 0, 0, 0, [], .null),
    (14, .iconst 1, 1, 0, 0, 0, 0, 0, [], .int 1),
    (15, .isub, 1, 8, 0, 1, 0, 0, [], .null),
    (16, .invokestatic 64, 3, 48, 139, 3, 0, 0, [], .null),
    (19, .ifCond .eq 19, 3, 20, 38, 0, 0, 0, [], .null),
    (22, .iload_n 2, 1, 1, 2, 0, 0, 0, [], .null),
    (23, .iconst 0, 1, 0, 0, 0, 0, 0, [], .int 0),
    (24, .aload_n 0, 1, 3, 0, 0, 0, 0, [], .null),
    (25, .getfield 17, 3, 26, 11, 8, 0, 0, [], .null),
    (28, .iconst 2, 1, 0, 0, 0, 0, 0, [], .int 2),
    (29, .iaload, 1, 31, 0, 0, 0, 0, [], .null),
    (30, .iconst 1, 1, 0, 0, 0, 0, 0, [], .int 1),
    (31, .isub, 1, 8, 0, 1, 0, 0, [], .null),
    (32, .invokestatic 64, 3, 48, 139, 3, 0, 0, [], .null),
    (35, .ifCond .ne 7, 3, 20, 42, 1, 0, 0, [], .null),
    (38, .iconst 1, 1, 0, 0, 0, 0, 0, [], .int 1),
    (39, .goto 4, 3, 22, 43, 0, 0, 0, [], .null)]
def kX11_swapTurns_38 : List Item := [(38, .iconst 1, 1, 0, 0, 0, 0, 0, [], .int 1),
    (39, .goto 4, 3, 22, 43, 0, 0, 0, [], .null)]
def kX11_swapTurns_42 : List Item := [(42, .iconst 0, 1, 0, 0, 0, 0, 0, [], .int 0),
    (43, .iconst 1, 1, 0, 0, 0, 0, 0, [], .int 1),
    (44, .invokevirtual 169, 3, 48, 129, 3, 0, 0, [11], .null),
    (47, .ifCond .eq 5, 3, 20, 52, 0, 0, 0, [], .null),
    (50, .iconst 0, 1, 0, 0, 0, 0, 0, [], .int 0),
    (51, .ireturn, 1, 56, 0, 0, 0, 0, [], .null)]
def kX11_swapTurns_43 : List Item := [(43, .iconst 1, 1, 0, 0, 0, 0, 0, [], .int 1),
    (44, .invokevirtual 169, 3, 48, 129, 3, 0, 0, [11], .null),
    (47, .ifCond .eq 5, 3, 20, 52, 0, 0, 0, [], .null),
    (50, .iconst 0, 1, 0, 0, 0, 0, 0, [], .int 0),
    (51, .ireturn, 1, 56, 0, 0, 0, 0, [], .null)]
def kX11_swapTurns_52 : List Item := [(52, .aload_n 0, 1, 3, 0, 0, 0, 0, [], .null),
    (53, .invokevirtual 176, 3, 48, 165, 1, 0, 0, [11], .null),
    (56, .iconst 0, 1, 0, 0, 0, 0, 0, [], .int 0),
    (57, .istore_n 3, 1, 4, 3, 0, 0, 0, [], .null),
    (58, .nop, 0, 60, 58, 0, 0, 0, [], .null)]
def kX11_swapTurns_58 : List Item := [(58, .iload_n 3, 1, 1, 3, 0, 0, 0, [], .null),
    (59, .iconst 2, 1, 0, 0, 0, 0, 0, [], .int 2),
    (60, .if_icmp .ge 69, 3, 21, 129, 3, 0, 0, [], .null),
    (63, .aload_n 0, 1, 3, 0, 0, 0, 0, [], .null),
    (64, .getfield 17, 3, 26, 11, 8, 0, 0, [], .null),
    (67, .sipush 353, 3, 0, 0, 0, 0, 0, [], .int 353),
    (70, .iconst 2, 1, 0, 0, 0, 0, 0, [], .int 2),
    (71, .iload_n 1, 1, 1, 1, 0, 0, 0, [], .null),
    (72, .imul, 1, 8, 0, 2, 0, 0, [], .null),
    (73, .iadd, 1, 8, 0, 0, 0, 0, [], .null),
    (74, .iload_n 3, 1, 1, 3, 0, 0, 0, [], .null),
    (75, .iadd, 1, 8, 0, 0, 0, 0, [], .null),
    (76, .iaload, 1, 31, 0, 0, 0, 0, [], .null),
    (77, .istore 4, 2, 4, 4, 0, 0, 0, [], .null),
    (79, .aload_n 0, 1, 3, 0, 0, 0, 0, [], .null),
    (80, .getfield 17, 3, 26, 11, 8, 0, 0, [], .null),
    (83, .sipush 353, 3, 0, 0, 0, 0, 0, [], .int 353),
    (86, .iconst 2, 1, 0, 0, 0, 0, 0, [], .int 2),
    (87, .iload_n 1, 1, 1, 1, 0, 0, 0, [], .null),
    (88, .imul, 1, 8, 0, 2, 0, 0, [], .null),
    (89, .iadd, 1, 8, 0, 0, 0, 0, [], .null),
    (90, .iload_n 3, 1, 1, 3, 0, 0, 0, [], .null),
    (91, .iadd, 1, 8, 0, 0, 0, 0, [], .null),
    (92, .aload_n 0, 1, 3, 0, 0, 0, 0, [], .null),
    (93, .getfield 17, 3, 26, 11, 8, 0, 0, [], .null),
    (96, .sipush 353, 3, 0, 0, 0, 0, 0, [], .int 353),
    (99, .iconst 2, 1, 0, 0, 0, 0, 0, [], .int 2),
    (100, .iload_n 2, 1, 1, 2, 0, 0, 0, [], .null),
    (101, .imul, 1, 8, 0, 2, 0, 0, [], .null),
    (102, .iadd, 1, 8, 0, 0, 0, 0, [], .null),
    (103, .iload_n 3, 1, 1, 3, 0, 0, 0, [], .null),
    (104, .iadd, 1, 8, 0, 0, 0, 0, [], .null),
    (105, .iaload, 1, 31, 0, 0, 0, 0, [], .null),
    (106, .iastore, 1, 35, 0, 0, 0, 0, [], .null),
    (107, .aload_n 0, 1, 3, 0, 0, 0, 0, [], .null),
    (108, .getfield 17, 3, 26, 11, 8, 0, 0, [], .null),
    (111, .sipush 353, 3, 0, 0, 0, 0, 0, [], .int 353),
    (114, .iconst 2, 1, 0, 0, 0, 0, 0, [], .int 2),
    (115, .iload_n 2, 1, 1, 2, 0, 0, 0, [], .null),
    (116, .imul, 1, 8, 0, 2, 0, 0, [], .null),
    (117, .iadd, 1, 8, 0, 0, 0, 0, [], .null),
    (118, .iload_n 3, 1, 1, 3, 0, 0, 0, [], .null),
    (119, .iadd, 1, 8, 0, 0, 0, 0, [], .null),
    (120, .iload 4, 2, 1, 4, 0, 0, 0, [], .null),
    (122, .iastore, 1, 35, 0, 0, 0, 0, [], .null),
    (123, .iinc 3 1, 3, 7, 3, 0, 0, 0, [], .int 1),
    (126, .goto (-68), 3, 22, 58, 0, 0, 0, [], .null)]
def kX11_swapTurns_129 : List Item := [(129, .aload_n 0, 1, 3, 0, 0, 0, 0, [], .null),
    (130, .getfield 17, 3, 26, 11, 8, 0, 0, [], .null),
    (133, .aload_n 0, 1, 3, 0, 0, 0, 0, [], .null),
    (134, .getfield 17, 3, 26, 11, 8, 0, 0, [], .null),
    (137, .iconst 5, 1, 0, 0, 0, 0, 0, [], .int 5),
    (138, .iaload, 1, 31, 0, 0, 0, 0, [], .null),
    (139, .invokestatic 195, 3, 48, 180, 2, 0, 0, [], .null),
    (142, .ireturn, 1, 56, 0, 0, 0, 0, [], .null)]
def kX11_swapTurns : Code9 := [(0, kX11_swapTurns_0), (38, kX11_swapTurns_38), (42, kX11_swapTurns_42), (43, kX11_swapTurns_43), (52, kX11_swapTurns_52), (58, kX11_swapTurns_58), (129, kX11_swapTurns_129)]
theorem rX11_swapTurns_0 (sa : Nat → Nat) (E : Nat → Sem) (MC MS : Nat) (HX : Nat → Nat → Option Nat) (Q : Option Value → Mm → Prop) (X : Nat → Mm → Prop) (L : List Slot) (st : List Value) (M : Mm) (nc ns : Nat) : Run sa E MC MS HX Q X kX11_swapTurns 0 L st M nc ns = bk sa E MC MS HX (Run sa E MC MS HX Q X kX11_swapTurns) Q X kX11_swapTurns_0 L st M nc ns := Run_eq sa E MC MS HX Q X _ _ _ _ _ _ _
theorem rX11_swapTurns_38 (sa : Nat → Nat) (E : Nat → Sem) (MC MS : Nat) (HX : Nat → Nat → Option Nat) (Q : Option Value → Mm → Prop) (X : Nat → Mm → Prop) (L : List Slot) (st : List Value) (M : Mm) (nc ns : Nat) : Run sa E MC MS HX Q X kX11_swapTurns 38 L st M nc ns = bk sa E MC MS HX (Run sa E MC MS HX Q X kX11_swapTurns) Q X kX11_swapTurns_38 L st M nc ns := Run_eq sa E MC MS HX Q X _ _ _ _ _ _ _
theorem rX11_swapTurns_42 (sa : Nat → Nat) (E : Nat → Sem) (MC MS : Nat) (HX : Nat → Nat → Option Nat) (Q : Option Value → Mm → Prop) (X : Nat → Mm → Prop) (L : List Slot) (st : List Value) (M : Mm) (nc ns : Nat) : Run sa E MC MS HX Q X kX11_swapTurns 42 L st M nc ns = bk sa E MC MS HX (Run sa E MC MS HX Q X kX11_swapTurns) Q X kX11_swapTurns_42 L st M nc ns := Run_eq sa E MC MS HX Q X _ _ _ _ _ _ _
theorem rX11_swapTurns_43 (sa : Nat → Nat) (E : Nat → Sem) (MC MS : Nat) (HX : Nat → Nat → Option Nat) (Q : Option Value → Mm → Prop) (X : Nat → Mm → Prop) (L : List Slot) (st : List Value) (M : Mm) (nc ns : Nat) : Run sa E MC MS HX Q X kX11_swapTurns 43 L st M nc ns = bk sa E MC MS HX (Run sa E MC MS HX Q X kX11_swapTurns) Q X kX11_swapTurns_43 L st M nc ns := Run_eq sa E MC MS HX Q X _ _ _ _ _ _ _
theorem rX11_swapTurns_52 (sa : Nat → Nat) (E : Nat → Sem) (MC MS : Nat) (HX : Nat → Nat → Option Nat) (Q : Option Value → Mm → Prop) (X : Nat → Mm → Prop) (L : List Slot) (st : List Value) (M : Mm) (nc ns : Nat) : Run sa E MC MS HX Q X kX11_swapTurns 52 L st M nc ns = bk sa E MC MS HX (Run sa E MC MS HX Q X kX11_swapTurns) Q X kX11_swapTurns_52 L st M nc ns := Run_eq sa E MC MS HX Q X _ _ _ _ _ _ _
theorem rX11_swapTurns_58 (sa : Nat → Nat) (E : Nat → Sem) (MC MS : Nat) (HX : Nat → Nat → Option Nat) (Q : Option Value → Mm → Prop) (X : Nat → Mm → Prop) (L : List Slot) (st : List Value) (M : Mm) (nc ns : Nat) : Run sa E MC MS HX Q X kX11_swapTurns 58 L st M nc ns = bk sa E MC MS HX (Run sa E MC MS HX Q X kX11_swapTurns) Q X kX11_swapTurns_58 L st M nc ns := Run_eq sa E MC MS HX Q X _ _ _ _ _ _ _
theorem rX11_swapTurns_129 (sa : Nat → Nat) (E : Nat → Sem) (MC MS : Nat) (HX : Nat → Nat → Option Nat) (Q : Option Value → Mm → Prop) (X : Nat → Mm → Prop) (L : List Slot) (st : List Value) (M : Mm) (nc ns : Nat) : Run sa E MC MS HX Q X kX11_swapTurns 129 L st M nc ns = bk sa E MC MS HX (Run sa E MC MS HX Q X kX11_swapTurns) Q X kX11_swapTurns_129 L st M nc ns := Run_eq sa E MC MS HX Q X _ _ _ _ _ _ _
def kX11_takeWord_0 : List Item := [(0, .aload_n 0, 1, 3, 0, 0, 0, 0, [], .null),
    (1, .invokevirtual 68, 3, 48, 146, 1, 0, 0, [11], .null),
    (4, .ifCond .ne 5, 3, 20, 9, 1, 0, 0, [], .null),
    (7, .iconst 0, 1, 0, 0, 0, 0, 0, [], .int 0),
    (8, .ireturn, 1, 58, 0, 0, 0, 0, [], .null)]
def kX11_takeWord_9 : List Item := [(9, .aload_n 0, 1, 3, 0, 0, 0, 0, [], .null),
    (10, .invokevirtual 72, 3, 48, 151, 1, 0, 0, [11], .null),
    (13, .pop, 1, 19, 0, 0, 0, 0, [], .null),
    (14, .iconst 0, 1, 0, 0, 0, 0, 0, [], .int 0),
    (15, .istore_n 2, 1, 4, 2, 0, 0, 0, [], .null),
    (16, .nop, 0, 60, 16, 0, 0, 0, [], .null)]
def kX11_takeWord_16 : List Item := [(16, .iload_n 2, 1, 1, 2, 0, 0, 0, [], .null),
    (17, .aload_n 1, 1, 3, 1, 0, 0, 0, [], .null),
    (18, .invokevirtual 76, 3, 48, 900, 1, 0, 0, [100], .null),
    (21, .if_icmp .ge 27, 3, 21, 48, 3, 0, 0, [], .null),
    (24, .aload_n 0, 1, 3, 0, 0, 0, 0, [], .null),
    (25, .aload_n 0, 1, 3, 0, 0, 0, 0, [], .null),
    (26, .getfield 51, 3, 24, 11, 4, 0, 0, [], .null),
    (29, .iload_n 2, 1, 1, 2, 0, 0, 0, [], .null),
    (30, .iadd, 1, 8, 0, 0, 0, 0, [], .null),
    (31, .invokevirtual 54, 3, 48, 112, 2, 0, 0, [11], .null),
    (34, .aload_n 1, 1, 3, 1, 0, 0, 0, [], .null),
    (35, .iload_n 2, 1, 1, 2, 0, 0, 0, [], .null),
    (36, .invokevirtual 81, 3, 48, 901, 2, 0, 0, [100], .null),
    (39, .if_icmp .ne 9, 3, 21, 48, 1, 0, 0, [], .null),
    (42, .iinc 2 1, 3, 7, 2, 0, 0, 0, [], .int 1),
    (45, .goto (-29), 3, 22, 16, 0, 0, 0, [], .null)]
def kX11_takeWord_48 : List Item := [(48, .iload_n 2, 1, 1, 2, 0, 0, 0, [], .null),
    (49, .aload_n 1, 1, 3, 1, 0, 0, 0, [], .null),
    (50, .invokevirtual 76, 3, 48, 900, 1, 0, 0, [100], .null),
    (53, .if_icmp .lt 23, 3, 21, 76, 2, 0, 0, [], .null),
    (56, .aload_n 0, 1, 3, 0, 0, 0, 0, [], .null),
    (57, .aload_n 0, 1, 3, 0, 0, 0, 0, [], .null),
    (58, .getfield 51, 3, 24, 11, 4, 0, 0, [], .null),
    (61, .iload_n 2, 1, 1, 2, 0, 0, 0, [], .null),
    (62, .iadd, 1, 8, 0, 0, 0, 0, [], .null),
    (63, .invokevirtual 54, 3, 48, 112, 2, 0, 0, [11], .null),
    (66, .bipush 97, 2, 0, 0, 0, 0, 0, [], .int 97),
    (68, .bipush 122, 2, 0, 0, 0, 0, 0, [], .int 122),
    (70, .invokestatic 64, 3, 48, 139, 3, 0, 0, [], .null),
    (73, .ifCond .eq 5, 3, 20, 78, 0, 0, 0, [], .null),
    (76, .iconst 0, 1, 0, 0, 0, 0, 0, [], .int 0),
    (77, .ireturn, 1, 58, 0, 0, 0, 0, [], .null)]
def kX11_takeWord_76 : List Item := [(76, .iconst 0, 1, 0, 0, 0, 0, 0, [], .int 0),
    (77, .ireturn, 1, 58, 0, 0, 0, 0, [], .null)]
def kX11_takeWord_78 : List Item := [(78, .aload_n 0, 1, 3, 0, 0, 0, 0, [], .null),
    (79, .dup, 1, 16, 0, 0, 0, 0, [], .null),
    (80, .getfield 51, 3, 24, 11, 4, 0, 0, [], .null),
    (83, .iload_n 2, 1, 1, 2, 0, 0, 0, [], .null),
    (84, .iadd, 1, 8, 0, 0, 0, 0, [], .null),
    (85, .putfield 51, 3, 27, 11, 4, 0, 0, [], .null),
    (88, .iconst 1, 1, 0, 0, 0, 0, 0, [], .int 1),
    (89, .ireturn, 1, 58, 0, 0, 0, 0, [], .null)]
def kX11_takeWord : Code9 := [(0, kX11_takeWord_0), (9, kX11_takeWord_9), (16, kX11_takeWord_16), (48, kX11_takeWord_48), (76, kX11_takeWord_76), (78, kX11_takeWord_78)]
theorem rX11_takeWord_0 (sa : Nat → Nat) (E : Nat → Sem) (MC MS : Nat) (HX : Nat → Nat → Option Nat) (Q : Option Value → Mm → Prop) (X : Nat → Mm → Prop) (L : List Slot) (st : List Value) (M : Mm) (nc ns : Nat) : Run sa E MC MS HX Q X kX11_takeWord 0 L st M nc ns = bk sa E MC MS HX (Run sa E MC MS HX Q X kX11_takeWord) Q X kX11_takeWord_0 L st M nc ns := Run_eq sa E MC MS HX Q X _ _ _ _ _ _ _
theorem rX11_takeWord_9 (sa : Nat → Nat) (E : Nat → Sem) (MC MS : Nat) (HX : Nat → Nat → Option Nat) (Q : Option Value → Mm → Prop) (X : Nat → Mm → Prop) (L : List Slot) (st : List Value) (M : Mm) (nc ns : Nat) : Run sa E MC MS HX Q X kX11_takeWord 9 L st M nc ns = bk sa E MC MS HX (Run sa E MC MS HX Q X kX11_takeWord) Q X kX11_takeWord_9 L st M nc ns := Run_eq sa E MC MS HX Q X _ _ _ _ _ _ _
theorem rX11_takeWord_16 (sa : Nat → Nat) (E : Nat → Sem) (MC MS : Nat) (HX : Nat → Nat → Option Nat) (Q : Option Value → Mm → Prop) (X : Nat → Mm → Prop) (L : List Slot) (st : List Value) (M : Mm) (nc ns : Nat) : Run sa E MC MS HX Q X kX11_takeWord 16 L st M nc ns = bk sa E MC MS HX (Run sa E MC MS HX Q X kX11_takeWord) Q X kX11_takeWord_16 L st M nc ns := Run_eq sa E MC MS HX Q X _ _ _ _ _ _ _
theorem rX11_takeWord_48 (sa : Nat → Nat) (E : Nat → Sem) (MC MS : Nat) (HX : Nat → Nat → Option Nat) (Q : Option Value → Mm → Prop) (X : Nat → Mm → Prop) (L : List Slot) (st : List Value) (M : Mm) (nc ns : Nat) : Run sa E MC MS HX Q X kX11_takeWord 48 L st M nc ns = bk sa E MC MS HX (Run sa E MC MS HX Q X kX11_takeWord) Q X kX11_takeWord_48 L st M nc ns := Run_eq sa E MC MS HX Q X _ _ _ _ _ _ _
theorem rX11_takeWord_76 (sa : Nat → Nat) (E : Nat → Sem) (MC MS : Nat) (HX : Nat → Nat → Option Nat) (Q : Option Value → Mm → Prop) (X : Nat → Mm → Prop) (L : List Slot) (st : List Value) (M : Mm) (nc ns : Nat) : Run sa E MC MS HX Q X kX11_takeWord 76 L st M nc ns = bk sa E MC MS HX (Run sa E MC MS HX Q X kX11_takeWord) Q X kX11_takeWord_76 L st M nc ns := Run_eq sa E MC MS HX Q X _ _ _ _ _ _ _
theorem rX11_takeWord_78 (sa : Nat → Nat) (E : Nat → Sem) (MC MS : Nat) (HX : Nat → Nat → Option Nat) (Q : Option Value → Mm → Prop) (X : Nat → Mm → Prop) (L : List Slot) (st : List Value) (M : Mm) (nc ns : Nat) : Run sa E MC MS HX Q X kX11_takeWord 78 L st M nc ns = bk sa E MC MS HX (Run sa E MC MS HX Q X kX11_takeWord) Q X kX11_takeWord_78 L st M nc ns := Run_eq sa E MC MS HX Q X _ _ _ _ _ _ _
def kX11_taken_0 : List Item := [(0, .aload_n 0, 1, 3, 0, 0, 0, 0, [], .null),
    (1, .iconst 0, 1, 0, 0, 0, 0, 0, [], .int 0),
    (2, .putfield 42, 3, 27, 11, 0, 0, 0, [], .null),
    (5, .aload_n 0, 1, 3, 0, 0, 0, 0, [], .null),
    (6, .iload_n 1, 1, 1, 1, 0, 0, 0, [], .null),
    (7, .invokevirtual 239, 3, 48, 153, 2, 0, 0, [11], .null),
    (10, .ifCond .eq 7, 3, 20, 17, 0, 0, 0, [], .null),
    (13, .iconst 0, 1, 0, 0, 0, 0, 0, [], .int 0),
    (14, .goto 15, 3, 22, 29, 0, 0, 0, [], .null)]
def kX11_taken_17 : List Item := [(17, .aload_n 0, 1, 3, 0, 0, 0, 0, [], .null),
    (18, .getfield 17, 3, 26, 11, 8, 0, 0, [], .null),
    (21, .iload_n 1, 1, 1, 1, 0, 0, 0, [], .null),
    (22, .invokestatic 140, 3, 48, 131, 1, 0, 0, [], .null),
    (25, .bipush 8, 2, 0, 0, 0, 0, 0, [], .int 8),
    (27, .iadd, 1, 8, 0, 0, 0, 0, [], .null),
    (28, .iaload, 1, 31, 0, 0, 0, 0, [], .null),
    (29, .ireturn, 1, 56, 0, 0, 0, 0, [], .null)]
def kX11_taken_29 : List Item := [(29, .ireturn, 1, 56, 0, 0, 0, 0, [], .null)]
def kX11_taken : Code9 := [(0, kX11_taken_0), (17, kX11_taken_17), (29, kX11_taken_29)]
theorem rX11_taken_0 (sa : Nat → Nat) (E : Nat → Sem) (MC MS : Nat) (HX : Nat → Nat → Option Nat) (Q : Option Value → Mm → Prop) (X : Nat → Mm → Prop) (L : List Slot) (st : List Value) (M : Mm) (nc ns : Nat) : Run sa E MC MS HX Q X kX11_taken 0 L st M nc ns = bk sa E MC MS HX (Run sa E MC MS HX Q X kX11_taken) Q X kX11_taken_0 L st M nc ns := Run_eq sa E MC MS HX Q X _ _ _ _ _ _ _
theorem rX11_taken_17 (sa : Nat → Nat) (E : Nat → Sem) (MC MS : Nat) (HX : Nat → Nat → Option Nat) (Q : Option Value → Mm → Prop) (X : Nat → Mm → Prop) (L : List Slot) (st : List Value) (M : Mm) (nc ns : Nat) : Run sa E MC MS HX Q X kX11_taken 17 L st M nc ns = bk sa E MC MS HX (Run sa E MC MS HX Q X kX11_taken) Q X kX11_taken_17 L st M nc ns := Run_eq sa E MC MS HX Q X _ _ _ _ _ _ _
theorem rX11_taken_29 (sa : Nat → Nat) (E : Nat → Sem) (MC MS : Nat) (HX : Nat → Nat → Option Nat) (Q : Option Value → Mm → Prop) (X : Nat → Mm → Prop) (L : List Slot) (st : List Value) (M : Mm) (nc ns : Nat) : Run sa E MC MS HX Q X kX11_taken 29 L st M nc ns = bk sa E MC MS HX (Run sa E MC MS HX Q X kX11_taken) Q X kX11_taken_29 L st M nc ns := Run_eq sa E MC MS HX Q X _ _ _ _ _ _ _
def kX11_takenByAll_0 : List Item := [(0, .iconst 0, 1, 0, 0, 0, 0, 0, [], .int 0),
    (1, .istore_n 1, 1, 4, 1, 0, 0, 0, [], .null),
    (2, .iconst 0, 1, 0, 0, 0, 0, 0, [], .int 0),
    (3, .istore_n 2, 1, 4, 2, 0, 0, 0, [], .null),
    (4, .nop, 0, 60, 4, 0, 0, 0, [], .null)]
def kX11_takenByAll_4 : List Item := [(4, .iload_n 2, 1, 1, 2, 0, 0, 0, [], .null),
    (5, .aload_n 0, 1, 3, 0, 0, 0, 0, [], .null),
    (6, .getfield 17, 3, 26, 11, 8, 0, 0, [], .null),
    (9, .iconst 1, 1, 0, 0, 0, 0, 0, [], .int 1),
    (10, .iaload, 1, 31, 0, 0, 0, 0, [], .null),
    (11, .if_icmp .ge 24, 3, 21, 35, 3, 0, 0, [], .null),
    (14, .iload_n 1, 1, 1, 1, 0, 0, 0, [], .null),
    (15, .aload_n 0, 1, 3, 0, 0, 0, 0, [], .null),
    (16, .getfield 17, 3, 26, 11, 8, 0, 0, [], .null),
    (19, .iload_n 2, 1, 1, 2, 0, 0, 0, [], .null),
    (20, .invokestatic 140, 3, 48, 131, 1, 0, 0, [], .null),
    (23, .bipush 8, 2, 0, 0, 0, 0, 0, [], .int 8),
    (25, .iadd, 1, 8, 0, 0, 0, 0, [], .null),
    (26, .iaload, 1, 31, 0, 0, 0, 0, [], .null),
    (27, .iadd, 1, 8, 0, 0, 0, 0, [], .null),
    (28, .istore_n 1, 1, 4, 1, 0, 0, 0, [], .null),
    (29, .iinc 2 1, 3, 7, 2, 0, 0, 0, [], .int 1),
    (32, .goto (-28), 3, 22, 4, 0, 0, 0, [], .null)]
def kX11_takenByAll_35 : List Item := [(35, .iload_n 1, 1, 1, 1, 0, 0, 0, [], .null),
    (36, .ireturn, 1, 56, 0, 0, 0, 0, [], .null)]
def kX11_takenByAll : Code9 := [(0, kX11_takenByAll_0), (4, kX11_takenByAll_4), (35, kX11_takenByAll_35)]
theorem rX11_takenByAll_0 (sa : Nat → Nat) (E : Nat → Sem) (MC MS : Nat) (HX : Nat → Nat → Option Nat) (Q : Option Value → Mm → Prop) (X : Nat → Mm → Prop) (L : List Slot) (st : List Value) (M : Mm) (nc ns : Nat) : Run sa E MC MS HX Q X kX11_takenByAll 0 L st M nc ns = bk sa E MC MS HX (Run sa E MC MS HX Q X kX11_takenByAll) Q X kX11_takenByAll_0 L st M nc ns := Run_eq sa E MC MS HX Q X _ _ _ _ _ _ _
theorem rX11_takenByAll_4 (sa : Nat → Nat) (E : Nat → Sem) (MC MS : Nat) (HX : Nat → Nat → Option Nat) (Q : Option Value → Mm → Prop) (X : Nat → Mm → Prop) (L : List Slot) (st : List Value) (M : Mm) (nc ns : Nat) : Run sa E MC MS HX Q X kX11_takenByAll 4 L st M nc ns = bk sa E MC MS HX (Run sa E MC MS HX Q X kX11_takenByAll) Q X kX11_takenByAll_4 L st M nc ns := Run_eq sa E MC MS HX Q X _ _ _ _ _ _ _
theorem rX11_takenByAll_35 (sa : Nat → Nat) (E : Nat → Sem) (MC MS : Nat) (HX : Nat → Nat → Option Nat) (Q : Option Value → Mm → Prop) (X : Nat → Mm → Prop) (L : List Slot) (st : List Value) (M : Mm) (nc ns : Nat) : Run sa E MC MS HX Q X kX11_takenByAll 35 L st M nc ns = bk sa E MC MS HX (Run sa E MC MS HX Q X kX11_takenByAll) Q X kX11_takenByAll_35 L st M nc ns := Run_eq sa E MC MS HX Q X _ _ _ _ _ _ _
def kX11_term_0 (d : Nat) : List Item := [(0, .aload_n 0, 1, 3, 0, 0, 0, 0, [], .null),
    (1, .invokevirtual 127, 3, 48, 128 + 1000 * d, 1, 0, 0, [11], .null),
    (4, .nop, 0, 60, 4, 0, 0, 0, [], .null)]
def kX11_term_4 (d : Nat) : List Item := [(4, .aload_n 0, 1, 3, 0, 0, 0, 0, [], .null),
    (5, .invokevirtual 68, 3, 48, 146, 1, 0, 0, [11], .null),
    (8, .ifCond .eq 66, 3, 20, 74, 0, 0, 0, [], .null),
    (11, .aload_n 0, 1, 3, 0, 0, 0, 0, [], .null),
    (12, .invokevirtual 72, 3, 48, 151, 1, 0, 0, [11], .null),
    (15, .bipush 42, 2, 0, 0, 0, 0, 0, [], .int 42),
    (17, .if_icmp .eq 12, 3, 21, 29, 0, 0, 0, [], .null),
    (20, .aload_n 0, 1, 3, 0, 0, 0, 0, [], .null),
    (21, .invokevirtual 72, 3, 48, 151, 1, 0, 0, [11], .null),
    (24, .bipush 47, 2, 0, 0, 0, 0, 0, [], .int 47),
    (26, .if_icmp .ne 48, 3, 21, 74, 1, 0, 0, [], .null),
    (29, .aload_n 0, 1, 3, 0, 0, 0, 0, [], .null),
    (30, .invokevirtual 72, 3, 48, 151, 1, 0, 0, [11], .null),
    (33, .bipush 42, 2, 0, 0, 0, 0, 0, [], .int 42),
    (35, .if_icmp .ne 7, 3, 21, 42, 1, 0, 0, [], .null),
    (38, .iconst 1, 1, 0, 0, 0, 0, 0, [], .int 1),
    (39, .goto 4, 3, 22, 43, 0, 0, 0, [], .null)]
def kX11_term_29 (d : Nat) : List Item := [(29, .aload_n 0, 1, 3, 0, 0, 0, 0, [], .null),
    (30, .invokevirtual 72, 3, 48, 151, 1, 0, 0, [11], .null),
    (33, .bipush 42, 2, 0, 0, 0, 0, 0, [], .int 42),
    (35, .if_icmp .ne 7, 3, 21, 42, 1, 0, 0, [], .null),
    (38, .iconst 1, 1, 0, 0, 0, 0, 0, [], .int 1),
    (39, .goto 4, 3, 22, 43, 0, 0, 0, [], .null)]
def kX11_term_42 (d : Nat) : List Item := [(42, .iconst 0, 1, 0, 0, 0, 0, 0, [], .int 0),
    (43, .istore_n 1, 1, 4, 1, 0, 0, 0, [], .null),
    (44, .aload_n 0, 1, 3, 0, 0, 0, 0, [], .null),
    (45, .dup, 1, 16, 0, 0, 0, 0, [], .null),
    (46, .getfield 51, 3, 24, 11, 4, 0, 0, [], .null),
    (49, .iconst 1, 1, 0, 0, 0, 0, 0, [], .int 1),
    (50, .iadd, 1, 8, 0, 0, 0, 0, [], .null),
    (51, .putfield 51, 3, 27, 11, 4, 0, 0, [], .null),
    (54, .aload_n 0, 1, 3, 0, 0, 0, 0, [], .null),
    (55, .invokevirtual 127, 3, 48, 128 + 1000 * d, 1, 0, 0, [11], .null),
    (58, .aload_n 0, 1, 3, 0, 0, 0, 0, [], .null),
    (59, .iload_n 1, 1, 1, 1, 0, 0, 0, [], .null),
    (60, .ifCond .eq 7, 3, 20, 67, 0, 0, 0, [], .null),
    (63, .iconst 4, 1, 0, 0, 0, 0, 0, [], .int 4),
    (64, .goto 4, 3, 22, 68, 0, 0, 0, [], .null)]
def kX11_term_43 (d : Nat) : List Item := [(43, .istore_n 1, 1, 4, 1, 0, 0, 0, [], .null),
    (44, .aload_n 0, 1, 3, 0, 0, 0, 0, [], .null),
    (45, .dup, 1, 16, 0, 0, 0, 0, [], .null),
    (46, .getfield 51, 3, 24, 11, 4, 0, 0, [], .null),
    (49, .iconst 1, 1, 0, 0, 0, 0, 0, [], .int 1),
    (50, .iadd, 1, 8, 0, 0, 0, 0, [], .null),
    (51, .putfield 51, 3, 27, 11, 4, 0, 0, [], .null),
    (54, .aload_n 0, 1, 3, 0, 0, 0, 0, [], .null),
    (55, .invokevirtual 127, 3, 48, 128 + 1000 * d, 1, 0, 0, [11], .null),
    (58, .aload_n 0, 1, 3, 0, 0, 0, 0, [], .null),
    (59, .iload_n 1, 1, 1, 1, 0, 0, 0, [], .null),
    (60, .ifCond .eq 7, 3, 20, 67, 0, 0, 0, [], .null),
    (63, .iconst 4, 1, 0, 0, 0, 0, 0, [], .int 4),
    (64, .goto 4, 3, 22, 68, 0, 0, 0, [], .null)]
def kX11_term_67 (d : Nat) : List Item := [(67, .iconst 5, 1, 0, 0, 0, 0, 0, [], .int 5),
    (68, .invokevirtual 124, 3, 48, 123, 2, 0, 0, [11], .null),
    (71, .goto (-67), 3, 22, 4, 0, 0, 0, [], .null)]
def kX11_term_68 (d : Nat) : List Item := [(68, .invokevirtual 124, 3, 48, 123, 2, 0, 0, [11], .null),
    (71, .goto (-67), 3, 22, 4, 0, 0, 0, [], .null)]
def kX11_term_74 (d : Nat) : List Item := [(74, .return_, 1, 55, 0, 0, 0, 0, [], .null)]
def kX11_term (d : Nat) : Code9 := [(0, kX11_term_0 d), (4, kX11_term_4 d), (29, kX11_term_29 d), (42, kX11_term_42 d), (43, kX11_term_43 d), (67, kX11_term_67 d), (68, kX11_term_68 d), (74, kX11_term_74 d)]
theorem rX11_term_0 (sa : Nat → Nat) (E : Nat → Sem) (MC MS : Nat) (HX : Nat → Nat → Option Nat) (Q : Option Value → Mm → Prop) (X : Nat → Mm → Prop) (d : Nat) (L : List Slot) (st : List Value) (M : Mm) (nc ns : Nat) : Run sa E MC MS HX Q X (kX11_term d) 0 L st M nc ns = bk sa E MC MS HX (Run sa E MC MS HX Q X (kX11_term d)) Q X (kX11_term_0 d) L st M nc ns := Run_eq sa E MC MS HX Q X _ _ _ _ _ _ _
theorem rX11_term_4 (sa : Nat → Nat) (E : Nat → Sem) (MC MS : Nat) (HX : Nat → Nat → Option Nat) (Q : Option Value → Mm → Prop) (X : Nat → Mm → Prop) (d : Nat) (L : List Slot) (st : List Value) (M : Mm) (nc ns : Nat) : Run sa E MC MS HX Q X (kX11_term d) 4 L st M nc ns = bk sa E MC MS HX (Run sa E MC MS HX Q X (kX11_term d)) Q X (kX11_term_4 d) L st M nc ns := Run_eq sa E MC MS HX Q X _ _ _ _ _ _ _
theorem rX11_term_29 (sa : Nat → Nat) (E : Nat → Sem) (MC MS : Nat) (HX : Nat → Nat → Option Nat) (Q : Option Value → Mm → Prop) (X : Nat → Mm → Prop) (d : Nat) (L : List Slot) (st : List Value) (M : Mm) (nc ns : Nat) : Run sa E MC MS HX Q X (kX11_term d) 29 L st M nc ns = bk sa E MC MS HX (Run sa E MC MS HX Q X (kX11_term d)) Q X (kX11_term_29 d) L st M nc ns := Run_eq sa E MC MS HX Q X _ _ _ _ _ _ _
theorem rX11_term_42 (sa : Nat → Nat) (E : Nat → Sem) (MC MS : Nat) (HX : Nat → Nat → Option Nat) (Q : Option Value → Mm → Prop) (X : Nat → Mm → Prop) (d : Nat) (L : List Slot) (st : List Value) (M : Mm) (nc ns : Nat) : Run sa E MC MS HX Q X (kX11_term d) 42 L st M nc ns = bk sa E MC MS HX (Run sa E MC MS HX Q X (kX11_term d)) Q X (kX11_term_42 d) L st M nc ns := Run_eq sa E MC MS HX Q X _ _ _ _ _ _ _
theorem rX11_term_43 (sa : Nat → Nat) (E : Nat → Sem) (MC MS : Nat) (HX : Nat → Nat → Option Nat) (Q : Option Value → Mm → Prop) (X : Nat → Mm → Prop) (d : Nat) (L : List Slot) (st : List Value) (M : Mm) (nc ns : Nat) : Run sa E MC MS HX Q X (kX11_term d) 43 L st M nc ns = bk sa E MC MS HX (Run sa E MC MS HX Q X (kX11_term d)) Q X (kX11_term_43 d) L st M nc ns := Run_eq sa E MC MS HX Q X _ _ _ _ _ _ _
theorem rX11_term_67 (sa : Nat → Nat) (E : Nat → Sem) (MC MS : Nat) (HX : Nat → Nat → Option Nat) (Q : Option Value → Mm → Prop) (X : Nat → Mm → Prop) (d : Nat) (L : List Slot) (st : List Value) (M : Mm) (nc ns : Nat) : Run sa E MC MS HX Q X (kX11_term d) 67 L st M nc ns = bk sa E MC MS HX (Run sa E MC MS HX Q X (kX11_term d)) Q X (kX11_term_67 d) L st M nc ns := Run_eq sa E MC MS HX Q X _ _ _ _ _ _ _
theorem rX11_term_68 (sa : Nat → Nat) (E : Nat → Sem) (MC MS : Nat) (HX : Nat → Nat → Option Nat) (Q : Option Value → Mm → Prop) (X : Nat → Mm → Prop) (d : Nat) (L : List Slot) (st : List Value) (M : Mm) (nc ns : Nat) : Run sa E MC MS HX Q X (kX11_term d) 68 L st M nc ns = bk sa E MC MS HX (Run sa E MC MS HX Q X (kX11_term d)) Q X (kX11_term_68 d) L st M nc ns := Run_eq sa E MC MS HX Q X _ _ _ _ _ _ _
theorem rX11_term_74 (sa : Nat → Nat) (E : Nat → Sem) (MC MS : Nat) (HX : Nat → Nat → Option Nat) (Q : Option Value → Mm → Prop) (X : Nat → Mm → Prop) (d : Nat) (L : List Slot) (st : List Value) (M : Mm) (nc ns : Nat) : Run sa E MC MS HX Q X (kX11_term d) 74 L st M nc ns = bk sa E MC MS HX (Run sa E MC MS HX Q X (kX11_term d)) Q X (kX11_term_74 d) L st M nc ns := Run_eq sa E MC MS HX Q X _ _ _ _ _ _ _
def kX11_thrown_0 : List Item := [(0, .aload_n 0, 1, 3, 0, 0, 0, 0, [], .null),
    (1, .getfield 42, 3, 24, 11, 0, 0, 0, [], .null),
    (4, .ireturn, 1, 56, 0, 0, 0, 0, [], .null)]
def kX11_thrown : Code9 := [(0, kX11_thrown_0)]
theorem rX11_thrown_0 (sa : Nat → Nat) (E : Nat → Sem) (MC MS : Nat) (HX : Nat → Nat → Option Nat) (Q : Option Value → Mm → Prop) (X : Nat → Mm → Prop) (L : List Slot) (st : List Value) (M : Mm) (nc ns : Nat) : Run sa E MC MS HX Q X kX11_thrown 0 L st M nc ns = bk sa E MC MS HX (Run sa E MC MS HX Q X kX11_thrown) Q X kX11_thrown_0 L st M nc ns := Run_eq sa E MC MS HX Q X _ _ _ _ _ _ _
def kX11_total_0 : List Item := [(0, .aload_n 0, 1, 3, 0, 0, 0, 0, [], .null),
    (1, .iconst 0, 1, 0, 0, 0, 0, 0, [], .int 0),
    (2, .putfield 42, 3, 27, 11, 0, 0, 0, [], .null),
    (5, .aload_n 0, 1, 3, 0, 0, 0, 0, [], .null),
    (6, .iload_n 1, 1, 1, 1, 0, 0, 0, [], .null),
    (7, .iconst 0, 1, 0, 0, 0, 0, 0, [], .int 0),
    (8, .iconst 5, 1, 0, 0, 0, 0, 0, [], .int 5),
    (9, .invokestatic 64, 3, 48, 139, 3, 0, 0, [], .null),
    (12, .ifCond .ne 7, 3, 20, 19, 1, 0, 0, [], .null),
    (15, .iconst 1, 1, 0, 0, 0, 0, 0, [], .int 1),
    (16, .goto 4, 3, 22, 20, 0, 0, 0, [], .null)]
def kX11_total_19 : List Item := [(19, .iconst 0, 1, 0, 0, 0, 0, 0, [], .int 0),
    (20, .iconst 1, 1, 0, 0, 0, 0, 0, [], .int 1),
    (21, .invokevirtual 169, 3, 48, 129, 3, 0, 0, [11], .null),
    (24, .ifCond .eq 5, 3, 20, 29, 0, 0, 0, [], .null),
    (27, .lconst 0, 1, 0, 0, 0, 0, 0, [], .long 0),
    (28, .lreturn, 1, 57, 0, 0, 0, 0, [], .null)]
def kX11_total_20 : List Item := [(20, .iconst 1, 1, 0, 0, 0, 0, 0, [], .int 1),
    (21, .invokevirtual 169, 3, 48, 129, 3, 0, 0, [11], .null),
    (24, .ifCond .eq 5, 3, 20, 29, 0, 0, 0, [], .null),
    (27, .lconst 0, 1, 0, 0, 0, 0, 0, [], .long 0),
    (28, .lreturn, 1, 57, 0, 0, 0, 0, [], .null)]
def kX11_total_29 : List Item := [(29, .iload_n 1, 1, 1, 1, 0, 0, 0, [], .null),
    (30, .ifCond .ne 12, 3, 20, 42, 1, 0, 0, [], .null),
    (33, .aload_n 0, 1, 3, 0, 0, 0, 0, [], .null),
    (34, .getfield 17, 3, 26, 11, 8, 0, 0, [], .null),
    (37, .bipush 8, 2, 0, 0, 0, 0, 0, [], .int 8),
    (39, .iaload, 1, 31, 0, 0, 0, 0, [], .null),
    (40, .i2l, 1, 12, 0, 0, 0, 0, [], .null),
    (41, .lreturn, 1, 57, 0, 0, 0, 0, [], .null)]
def kX11_total_42 : List Item := [(42, .iload_n 1, 1, 1, 1, 0, 0, 0, [], .null),
    (43, .iconst 3, 1, 0, 0, 0, 0, 0, [], .int 3),
    (44, .if_icmp .lt 32, 3, 21, 76, 2, 0, 0, [], .null),
    (47, .aload_n 0, 1, 3, 0, 0, 0, 0, [], .null),
    (48, .getfield 17, 3, 26, 11, 8, 0, 0, [], .null),
    (51, .iload_n 1, 1, 1, 1, 0, 0, 0, [], .null),
    (52, .iconst 3, 1, 0, 0, 0, 0, 0, [], .int 3),
    (53, .if_icmp .ne 8, 3, 21, 61, 1, 0, 0, [], .null),
    (56, .bipush 9, 2, 0, 0, 0, 0, 0, [], .int 9),
    (58, .goto 15, 3, 22, 73, 0, 0, 0, [], .null)]
def kX11_total_61 : List Item := [(61, .iload_n 1, 1, 1, 1, 0, 0, 0, [], .null),
    (62, .iconst 4, 1, 0, 0, 0, 0, 0, [], .int 4),
    (63, .if_icmp .ne 8, 3, 21, 71, 1, 0, 0, [], .null),
    (66, .bipush 10, 2, 0, 0, 0, 0, 0, [], .int 10),
    (68, .goto 5, 3, 22, 73, 0, 0, 0, [], .null)]
def kX11_total_71 : List Item := [(71, .bipush 11, 2, 0, 0, 0, 0, 0, [], .int 11),
    (73, .iaload, 1, 31, 0, 0, 0, 0, [], .null),
    (74, .i2l, 1, 12, 0, 0, 0, 0, [], .null),
    (75, .lreturn, 1, 57, 0, 0, 0, 0, [], .null)]
def kX11_total_73 : List Item := [(73, .iaload, 1, 31, 0, 0, 0, 0, [], .null),
    (74, .i2l, 1, 12, 0, 0, 0, 0, [], .null),
    (75, .lreturn, 1, 57, 0, 0, 0, 0, [], .null)]
def kX11_total_76 : List Item := [(76, .lconst 0, 1, 0, 0, 0, 0, 0, [], .long 0),
    (77, .lstore_n 2, 1, 6, 2, 0, 0, 0, [], .null),
    (78, .iconst 0, 1, 0, 0, 0, 0, 0, [], .int 0),
    (79, .istore 4, 2, 4, 4, 0, 0, 0, [], .null),
    (81, .nop, 0, 60, 81, 0, 0, 0, [], .null)]
def kX11_total_81 : List Item := [(81, .iload 4, 2, 1, 4, 0, 0, 0, [], .null),
    (83, .aload_n 0, 1, 3, 0, 0, 0, 0, [], .null),
    (84, .getfield 17, 3, 26, 11, 8, 0, 0, [], .null),
    (87, .iconst 1, 1, 0, 0, 0, 0, 0, [], .int 1),
    (88, .iaload, 1, 31, 0, 0, 0, 0, [], .null),
    (89, .if_icmp .ge 31, 3, 21, 120, 3, 0, 0, [], .null),
    (92, .iload_n 1, 1, 1, 1, 0, 0, 0, [], .null),
    (93, .iconst 2, 1, 0, 0, 0, 0, 0, [], .int 2),
    (94, .if_icmp .ne 26, 3, 21, 120, 1, 0, 0, [], .null),
    (97, .lload_n 2, 1, 2, 2, 0, 0, 0, [], .null),
    (98, .aload_n 0, 1, 3, 0, 0, 0, 0, [], .null),
    (99, .getfield 17, 3, 26, 11, 8, 0, 0, [], .null),
    (102, .iload 4, 2, 1, 4, 0, 0, 0, [], .null),
    (104, .invokestatic 140, 3, 48, 131, 1, 0, 0, [], .null),
    (107, .bipush 7, 2, 0, 0, 0, 0, 0, [], .int 7),
    (109, .iadd, 1, 8, 0, 0, 0, 0, [], .null),
    (110, .iaload, 1, 31, 0, 0, 0, 0, [], .null),
    (111, .i2l, 1, 12, 0, 0, 0, 0, [], .null),
    (112, .ladd, 1, 10, 0, 0, 0, 0, [], .null),
    (113, .lstore_n 2, 1, 6, 2, 0, 0, 0, [], .null),
    (114, .iinc 4 1, 3, 7, 4, 0, 0, 0, [], .int 1),
    (117, .goto (-36), 3, 22, 81, 0, 0, 0, [], .null)]
def kX11_total_120 : List Item := [(120, .iconst 0, 1, 0, 0, 0, 0, 0, [], .int 0),
    (121, .istore 4, 2, 4, 4, 0, 0, 0, [], .null),
    (123, .nop, 0, 60, 123, 0, 0, 0, [], .null)]
def kX11_total_123 : List Item := [(123, .iload 4, 2, 1, 4, 0, 0, 0, [], .null),
    (125, .aload_n 0, 1, 3, 0, 0, 0, 0, [], .null),
    (126, .getfield 17, 3, 26, 11, 8, 0, 0, [], .null),
    (129, .iconst 0, 1, 0, 0, 0, 0, 0, [], .int 0),
    (130, .iaload, 1, 31, 0, 0, 0, 0, [], .null),
    (131, .if_icmp .ge 50, 3, 21, 181, 3, 0, 0, [], .null),
    (134, .iload_n 1, 1, 1, 1, 0, 0, 0, [], .null),
    (135, .iconst 1, 1, 0, 0, 0, 0, 0, [], .int 1),
    (136, .if_icmp .ne 45, 3, 21, 181, 1, 0, 0, [], .null),
    (139, .iconst 0, 1, 0, 0, 0, 0, 0, [], .int 0),
    (140, .istore 5, 2, 4, 5, 0, 0, 0, [], .null),
    (142, .nop, 0, 60, 142, 0, 0, 0, [], .null)]
def kX11_total_142 : List Item := [(142, .iload 5, 2, 1, 5, 0, 0, 0, [], .null),
    (144, .bipush 6, 2, 0, 0, 0, 0, 0, [], .int 6),
    (146, .if_icmp .ge 29, 3, 21, 175, 3, 0, 0, [], .null),
    (149, .lload_n 2, 1, 2, 2, 0, 0, 0, [], .null),
    (150, .aload_n 0, 1, 3, 0, 0, 0, 0, [], .null),
    (151, .getfield 17, 3, 26, 11, 8, 0, 0, [], .null),
    (154, .iload 4, 2, 1, 4, 0, 0, 0, [], .null),
    (156, .invokestatic 133, 3, 48, 113, 1, 0, 0, [], .null),
    (159, .bipush 6, 2, 0, 0, 0, 0, 0, [], .int 6),
    (161, .iadd, 1, 8, 0, 0, 0, 0, [], .null),
    (162, .iload 5, 2, 1, 5, 0, 0, 0, [], .null),
    (164, .iadd, 1, 8, 0, 0, 0, 0, [], .null),
    (165, .iaload, 1, 31, 0, 0, 0, 0, [], .null),
    (166, .i2l, 1, 12, 0, 0, 0, 0, [], .null),
    (167, .ladd, 1, 10, 0, 0, 0, 0, [], .null),
    (168, .lstore_n 2, 1, 6, 2, 0, 0, 0, [], .null),
    (169, .iinc 5 1, 3, 7, 5, 0, 0, 0, [], .int 1),
    (172, .goto (-30), 3, 22, 142, 0, 0, 0, [], .null)]
def kX11_total_175 : List Item := [(175, .iinc 4 1, 3, 7, 4, 0, 0, 0, [], .int 1),
    (178, .goto (-55), 3, 22, 123, 0, 0, 0, [], .null)]
def kX11_total_181 : List Item := [(181, .lload_n 2, 1, 2, 2, 0, 0, 0, [], .null),
    (182, .lreturn, 1, 57, 0, 0, 0, 0, [], .null)]
def kX11_total : Code9 := [(0, kX11_total_0), (19, kX11_total_19), (20, kX11_total_20), (29, kX11_total_29), (42, kX11_total_42), (61, kX11_total_61), (71, kX11_total_71), (73, kX11_total_73), (76, kX11_total_76), (81, kX11_total_81), (120, kX11_total_120), (123, kX11_total_123), (142, kX11_total_142), (175, kX11_total_175), (181, kX11_total_181)]
theorem rX11_total_0 (sa : Nat → Nat) (E : Nat → Sem) (MC MS : Nat) (HX : Nat → Nat → Option Nat) (Q : Option Value → Mm → Prop) (X : Nat → Mm → Prop) (L : List Slot) (st : List Value) (M : Mm) (nc ns : Nat) : Run sa E MC MS HX Q X kX11_total 0 L st M nc ns = bk sa E MC MS HX (Run sa E MC MS HX Q X kX11_total) Q X kX11_total_0 L st M nc ns := Run_eq sa E MC MS HX Q X _ _ _ _ _ _ _
theorem rX11_total_19 (sa : Nat → Nat) (E : Nat → Sem) (MC MS : Nat) (HX : Nat → Nat → Option Nat) (Q : Option Value → Mm → Prop) (X : Nat → Mm → Prop) (L : List Slot) (st : List Value) (M : Mm) (nc ns : Nat) : Run sa E MC MS HX Q X kX11_total 19 L st M nc ns = bk sa E MC MS HX (Run sa E MC MS HX Q X kX11_total) Q X kX11_total_19 L st M nc ns := Run_eq sa E MC MS HX Q X _ _ _ _ _ _ _
theorem rX11_total_20 (sa : Nat → Nat) (E : Nat → Sem) (MC MS : Nat) (HX : Nat → Nat → Option Nat) (Q : Option Value → Mm → Prop) (X : Nat → Mm → Prop) (L : List Slot) (st : List Value) (M : Mm) (nc ns : Nat) : Run sa E MC MS HX Q X kX11_total 20 L st M nc ns = bk sa E MC MS HX (Run sa E MC MS HX Q X kX11_total) Q X kX11_total_20 L st M nc ns := Run_eq sa E MC MS HX Q X _ _ _ _ _ _ _
theorem rX11_total_29 (sa : Nat → Nat) (E : Nat → Sem) (MC MS : Nat) (HX : Nat → Nat → Option Nat) (Q : Option Value → Mm → Prop) (X : Nat → Mm → Prop) (L : List Slot) (st : List Value) (M : Mm) (nc ns : Nat) : Run sa E MC MS HX Q X kX11_total 29 L st M nc ns = bk sa E MC MS HX (Run sa E MC MS HX Q X kX11_total) Q X kX11_total_29 L st M nc ns := Run_eq sa E MC MS HX Q X _ _ _ _ _ _ _
theorem rX11_total_42 (sa : Nat → Nat) (E : Nat → Sem) (MC MS : Nat) (HX : Nat → Nat → Option Nat) (Q : Option Value → Mm → Prop) (X : Nat → Mm → Prop) (L : List Slot) (st : List Value) (M : Mm) (nc ns : Nat) : Run sa E MC MS HX Q X kX11_total 42 L st M nc ns = bk sa E MC MS HX (Run sa E MC MS HX Q X kX11_total) Q X kX11_total_42 L st M nc ns := Run_eq sa E MC MS HX Q X _ _ _ _ _ _ _
theorem rX11_total_61 (sa : Nat → Nat) (E : Nat → Sem) (MC MS : Nat) (HX : Nat → Nat → Option Nat) (Q : Option Value → Mm → Prop) (X : Nat → Mm → Prop) (L : List Slot) (st : List Value) (M : Mm) (nc ns : Nat) : Run sa E MC MS HX Q X kX11_total 61 L st M nc ns = bk sa E MC MS HX (Run sa E MC MS HX Q X kX11_total) Q X kX11_total_61 L st M nc ns := Run_eq sa E MC MS HX Q X _ _ _ _ _ _ _
theorem rX11_total_71 (sa : Nat → Nat) (E : Nat → Sem) (MC MS : Nat) (HX : Nat → Nat → Option Nat) (Q : Option Value → Mm → Prop) (X : Nat → Mm → Prop) (L : List Slot) (st : List Value) (M : Mm) (nc ns : Nat) : Run sa E MC MS HX Q X kX11_total 71 L st M nc ns = bk sa E MC MS HX (Run sa E MC MS HX Q X kX11_total) Q X kX11_total_71 L st M nc ns := Run_eq sa E MC MS HX Q X _ _ _ _ _ _ _
theorem rX11_total_73 (sa : Nat → Nat) (E : Nat → Sem) (MC MS : Nat) (HX : Nat → Nat → Option Nat) (Q : Option Value → Mm → Prop) (X : Nat → Mm → Prop) (L : List Slot) (st : List Value) (M : Mm) (nc ns : Nat) : Run sa E MC MS HX Q X kX11_total 73 L st M nc ns = bk sa E MC MS HX (Run sa E MC MS HX Q X kX11_total) Q X kX11_total_73 L st M nc ns := Run_eq sa E MC MS HX Q X _ _ _ _ _ _ _
theorem rX11_total_76 (sa : Nat → Nat) (E : Nat → Sem) (MC MS : Nat) (HX : Nat → Nat → Option Nat) (Q : Option Value → Mm → Prop) (X : Nat → Mm → Prop) (L : List Slot) (st : List Value) (M : Mm) (nc ns : Nat) : Run sa E MC MS HX Q X kX11_total 76 L st M nc ns = bk sa E MC MS HX (Run sa E MC MS HX Q X kX11_total) Q X kX11_total_76 L st M nc ns := Run_eq sa E MC MS HX Q X _ _ _ _ _ _ _
theorem rX11_total_81 (sa : Nat → Nat) (E : Nat → Sem) (MC MS : Nat) (HX : Nat → Nat → Option Nat) (Q : Option Value → Mm → Prop) (X : Nat → Mm → Prop) (L : List Slot) (st : List Value) (M : Mm) (nc ns : Nat) : Run sa E MC MS HX Q X kX11_total 81 L st M nc ns = bk sa E MC MS HX (Run sa E MC MS HX Q X kX11_total) Q X kX11_total_81 L st M nc ns := Run_eq sa E MC MS HX Q X _ _ _ _ _ _ _
theorem rX11_total_120 (sa : Nat → Nat) (E : Nat → Sem) (MC MS : Nat) (HX : Nat → Nat → Option Nat) (Q : Option Value → Mm → Prop) (X : Nat → Mm → Prop) (L : List Slot) (st : List Value) (M : Mm) (nc ns : Nat) : Run sa E MC MS HX Q X kX11_total 120 L st M nc ns = bk sa E MC MS HX (Run sa E MC MS HX Q X kX11_total) Q X kX11_total_120 L st M nc ns := Run_eq sa E MC MS HX Q X _ _ _ _ _ _ _
theorem rX11_total_123 (sa : Nat → Nat) (E : Nat → Sem) (MC MS : Nat) (HX : Nat → Nat → Option Nat) (Q : Option Value → Mm → Prop) (X : Nat → Mm → Prop) (L : List Slot) (st : List Value) (M : Mm) (nc ns : Nat) : Run sa E MC MS HX Q X kX11_total 123 L st M nc ns = bk sa E MC MS HX (Run sa E MC MS HX Q X kX11_total) Q X kX11_total_123 L st M nc ns := Run_eq sa E MC MS HX Q X _ _ _ _ _ _ _
theorem rX11_total_142 (sa : Nat → Nat) (E : Nat → Sem) (MC MS : Nat) (HX : Nat → Nat → Option Nat) (Q : Option Value → Mm → Prop) (X : Nat → Mm → Prop) (L : List Slot) (st : List Value) (M : Mm) (nc ns : Nat) : Run sa E MC MS HX Q X kX11_total 142 L st M nc ns = bk sa E MC MS HX (Run sa E MC MS HX Q X kX11_total) Q X kX11_total_142 L st M nc ns := Run_eq sa E MC MS HX Q X _ _ _ _ _ _ _
theorem rX11_total_175 (sa : Nat → Nat) (E : Nat → Sem) (MC MS : Nat) (HX : Nat → Nat → Option Nat) (Q : Option Value → Mm → Prop) (X : Nat → Mm → Prop) (L : List Slot) (st : List Value) (M : Mm) (nc ns : Nat) : Run sa E MC MS HX Q X kX11_total 175 L st M nc ns = bk sa E MC MS HX (Run sa E MC MS HX Q X kX11_total) Q X kX11_total_175 L st M nc ns := Run_eq sa E MC MS HX Q X _ _ _ _ _ _ _
theorem rX11_total_181 (sa : Nat → Nat) (E : Nat → Sem) (MC MS : Nat) (HX : Nat → Nat → Option Nat) (Q : Option Value → Mm → Prop) (X : Nat → Mm → Prop) (L : List Slot) (st : List Value) (M : Mm) (nc ns : Nat) : Run sa E MC MS HX Q X kX11_total 181 L st M nc ns = bk sa E MC MS HX (Run sa E MC MS HX Q X kX11_total) Q X kX11_total_181 L st M nc ns := Run_eq sa E MC MS HX Q X _ _ _ _ _ _ _
def kX11_turn_0 : List Item := [(0, .aload_n 0, 1, 3, 0, 0, 0, 0, [], .null),
    (1, .iconst 2, 1, 0, 0, 0, 0, 0, [], .int 2),
    (2, .iaload, 1, 31, 0, 0, 0, 0, [], .null),
    (3, .ifCond .ne 5, 3, 20, 8, 1, 0, 0, [], .null),
    (6, .iconst (-1), 1, 0, 0, 0, 0, 0, [], .int (-1)),
    (7, .ireturn, 1, 56, 0, 0, 0, 0, [], .null)]
def kX11_turn_8 : List Item := [(8, .iload_n 1, 1, 1, 1, 0, 0, 0, [], .null),
    (9, .aload_n 0, 1, 3, 0, 0, 0, 0, [], .null),
    (10, .invokestatic 183, 3, 48, 118, 1, 0, 0, [], .null),
    (13, .irem, 1, 9, 0, 1, 0, 0, [], .null),
    (14, .istore_n 2, 1, 4, 2, 0, 0, 0, [], .null),
    (15, .iconst 0, 1, 0, 0, 0, 0, 0, [], .int 0),
    (16, .istore_n 3, 1, 4, 3, 0, 0, 0, [], .null),
    (17, .nop, 0, 60, 17, 0, 0, 0, [], .null)]
def kX11_turn_17 : List Item := [(17, .iload_n 2, 1, 1, 2, 0, 0, 0, [], .null),
    (18, .aload_n 0, 1, 3, 0, 0, 0, 0, [], .null),
    (19, .sipush 353, 3, 0, 0, 0, 0, 0, [], .int 353),
    (22, .iconst 2, 1, 0, 0, 0, 0, 0, [], .int 2),
    (23, .iload_n 3, 1, 1, 3, 0, 0, 0, [], .null),
    (24, .imul, 1, 8, 0, 2, 0, 0, [], .null),
    (25, .iadd, 1, 8, 0, 0, 0, 0, [], .null),
    (26, .iconst 1, 1, 0, 0, 0, 0, 0, [], .int 1),
    (27, .iadd, 1, 8, 0, 0, 0, 0, [], .null),
    (28, .iaload, 1, 31, 0, 0, 0, 0, [], .null),
    (29, .if_icmp .lt 23, 3, 21, 52, 2, 0, 0, [], .null),
    (32, .iload_n 2, 1, 1, 2, 0, 0, 0, [], .null),
    (33, .aload_n 0, 1, 3, 0, 0, 0, 0, [], .null),
    (34, .sipush 353, 3, 0, 0, 0, 0, 0, [], .int 353),
    (37, .iconst 2, 1, 0, 0, 0, 0, 0, [], .int 2),
    (38, .iload_n 3, 1, 1, 3, 0, 0, 0, [], .null),
    (39, .imul, 1, 8, 0, 2, 0, 0, [], .null),
    (40, .iadd, 1, 8, 0, 0, 0, 0, [], .null),
    (41, .iconst 1, 1, 0, 0, 0, 0, 0, [], .int 1),
    (42, .iadd, 1, 8, 0, 0, 0, 0, [], .null),
    (43, .iaload, 1, 31, 0, 0, 0, 0, [], .null),
    (44, .isub, 1, 8, 0, 1, 0, 0, [], .null),
    (45, .istore_n 2, 1, 4, 2, 0, 0, 0, [], .null),
    (46, .iinc 3 1, 3, 7, 3, 0, 0, 0, [], .int 1),
    (49, .goto (-32), 3, 22, 17, 0, 0, 0, [], .null)]
def kX11_turn_52 : List Item := [(52, .aload_n 0, 1, 3, 0, 0, 0, 0, [], .null),
    (53, .sipush 353, 3, 0, 0, 0, 0, 0, [], .int 353),
    (56, .iconst 2, 1, 0, 0, 0, 0, 0, [], .int 2),
    (57, .iload_n 3, 1, 1, 3, 0, 0, 0, [], .null),
    (58, .imul, 1, 8, 0, 2, 0, 0, [], .null),
    (59, .iadd, 1, 8, 0, 0, 0, 0, [], .null),
    (60, .iaload, 1, 31, 0, 0, 0, 0, [], .null),
    (61, .ireturn, 1, 56, 0, 0, 0, 0, [], .null)]
def kX11_turn : Code9 := [(0, kX11_turn_0), (8, kX11_turn_8), (17, kX11_turn_17), (52, kX11_turn_52)]
theorem rX11_turn_0 (sa : Nat → Nat) (E : Nat → Sem) (MC MS : Nat) (HX : Nat → Nat → Option Nat) (Q : Option Value → Mm → Prop) (X : Nat → Mm → Prop) (L : List Slot) (st : List Value) (M : Mm) (nc ns : Nat) : Run sa E MC MS HX Q X kX11_turn 0 L st M nc ns = bk sa E MC MS HX (Run sa E MC MS HX Q X kX11_turn) Q X kX11_turn_0 L st M nc ns := Run_eq sa E MC MS HX Q X _ _ _ _ _ _ _
theorem rX11_turn_8 (sa : Nat → Nat) (E : Nat → Sem) (MC MS : Nat) (HX : Nat → Nat → Option Nat) (Q : Option Value → Mm → Prop) (X : Nat → Mm → Prop) (L : List Slot) (st : List Value) (M : Mm) (nc ns : Nat) : Run sa E MC MS HX Q X kX11_turn 8 L st M nc ns = bk sa E MC MS HX (Run sa E MC MS HX Q X kX11_turn) Q X kX11_turn_8 L st M nc ns := Run_eq sa E MC MS HX Q X _ _ _ _ _ _ _
theorem rX11_turn_17 (sa : Nat → Nat) (E : Nat → Sem) (MC MS : Nat) (HX : Nat → Nat → Option Nat) (Q : Option Value → Mm → Prop) (X : Nat → Mm → Prop) (L : List Slot) (st : List Value) (M : Mm) (nc ns : Nat) : Run sa E MC MS HX Q X kX11_turn 17 L st M nc ns = bk sa E MC MS HX (Run sa E MC MS HX Q X kX11_turn) Q X kX11_turn_17 L st M nc ns := Run_eq sa E MC MS HX Q X _ _ _ _ _ _ _
theorem rX11_turn_52 (sa : Nat → Nat) (E : Nat → Sem) (MC MS : Nat) (HX : Nat → Nat → Option Nat) (Q : Option Value → Mm → Prop) (X : Nat → Mm → Prop) (L : List Slot) (st : List Value) (M : Mm) (nc ns : Nat) : Run sa E MC MS HX Q X kX11_turn 52 L st M nc ns = bk sa E MC MS HX (Run sa E MC MS HX Q X kX11_turn) Q X kX11_turn_52 L st M nc ns := Run_eq sa E MC MS HX Q X _ _ _ _ _ _ _
def kX11_turnAt_0 : List Item := [(0, .aload_n 0, 1, 3, 0, 0, 0, 0, [], .null),
    (1, .iconst 0, 1, 0, 0, 0, 0, 0, [], .int 0),
    (2, .putfield 42, 3, 27, 11, 0, 0, 0, [], .null),
    (5, .aload_n 0, 1, 3, 0, 0, 0, 0, [], .null),
    (6, .iload_n 1, 1, 1, 1, 0, 0, 0, [], .null),
    (7, .iconst 0, 1, 0, 0, 0, 0, 0, [], .int 0),
    (8, .ldc 204, 2, 0, 0, 0, 0, 0, [], .int 100000),
    (10, .invokestatic 64, 3, 48, 139, 3, 0, 0, [], .null),
    (13, .ifCond .ne 7, 3, 20, 20, 1, 0, 0, [], .null),
    (16, .iconst 1, 1, 0, 0, 0, 0, 0, [], .int 1),
    (17, .goto 4, 3, 22, 21, 0, 0, 0, [], .null)]
def kX11_turnAt_20 : List Item := [(20, .iconst 0, 1, 0, 0, 0, 0, 0, [], .int 0),
    (21, .iconst 1, 1, 0, 0, 0, 0, 0, [], .int 1),
    (22, .invokevirtual 169, 3, 48, 129, 3, 0, 0, [11], .null),
    (25, .ifCond .eq 7, 3, 20, 32, 0, 0, 0, [], .null),
    (28, .iconst 0, 1, 0, 0, 0, 0, 0, [], .int 0),
    (29, .goto 11, 3, 22, 40, 0, 0, 0, [], .null)]
def kX11_turnAt_21 : List Item := [(21, .iconst 1, 1, 0, 0, 0, 0, 0, [], .int 1),
    (22, .invokevirtual 169, 3, 48, 129, 3, 0, 0, [11], .null),
    (25, .ifCond .eq 7, 3, 20, 32, 0, 0, 0, [], .null),
    (28, .iconst 0, 1, 0, 0, 0, 0, 0, [], .int 0),
    (29, .goto 11, 3, 22, 40, 0, 0, 0, [], .null)]
def kX11_turnAt_32 : List Item := [(32, .aload_n 0, 1, 3, 0, 0, 0, 0, [], .null),
    (33, .getfield 17, 3, 26, 11, 8, 0, 0, [], .null),
    (36, .iload_n 1, 1, 1, 1, 0, 0, 0, [], .null),
    (37, .invokestatic 195, 3, 48, 180, 2, 0, 0, [], .null),
    (40, .ireturn, 1, 56, 0, 0, 0, 0, [], .null)]
def kX11_turnAt_40 : List Item := [(40, .ireturn, 1, 56, 0, 0, 0, 0, [], .null)]
def kX11_turnAt : Code9 := [(0, kX11_turnAt_0), (20, kX11_turnAt_20), (21, kX11_turnAt_21), (32, kX11_turnAt_32), (40, kX11_turnAt_40)]
theorem rX11_turnAt_0 (sa : Nat → Nat) (E : Nat → Sem) (MC MS : Nat) (HX : Nat → Nat → Option Nat) (Q : Option Value → Mm → Prop) (X : Nat → Mm → Prop) (L : List Slot) (st : List Value) (M : Mm) (nc ns : Nat) : Run sa E MC MS HX Q X kX11_turnAt 0 L st M nc ns = bk sa E MC MS HX (Run sa E MC MS HX Q X kX11_turnAt) Q X kX11_turnAt_0 L st M nc ns := Run_eq sa E MC MS HX Q X _ _ _ _ _ _ _
theorem rX11_turnAt_20 (sa : Nat → Nat) (E : Nat → Sem) (MC MS : Nat) (HX : Nat → Nat → Option Nat) (Q : Option Value → Mm → Prop) (X : Nat → Mm → Prop) (L : List Slot) (st : List Value) (M : Mm) (nc ns : Nat) : Run sa E MC MS HX Q X kX11_turnAt 20 L st M nc ns = bk sa E MC MS HX (Run sa E MC MS HX Q X kX11_turnAt) Q X kX11_turnAt_20 L st M nc ns := Run_eq sa E MC MS HX Q X _ _ _ _ _ _ _
theorem rX11_turnAt_21 (sa : Nat → Nat) (E : Nat → Sem) (MC MS : Nat) (HX : Nat → Nat → Option Nat) (Q : Option Value → Mm → Prop) (X : Nat → Mm → Prop) (L : List Slot) (st : List Value) (M : Mm) (nc ns : Nat) : Run sa E MC MS HX Q X kX11_turnAt 21 L st M nc ns = bk sa E MC MS HX (Run sa E MC MS HX Q X kX11_turnAt) Q X kX11_turnAt_21 L st M nc ns := Run_eq sa E MC MS HX Q X _ _ _ _ _ _ _
theorem rX11_turnAt_32 (sa : Nat → Nat) (E : Nat → Sem) (MC MS : Nat) (HX : Nat → Nat → Option Nat) (Q : Option Value → Mm → Prop) (X : Nat → Mm → Prop) (L : List Slot) (st : List Value) (M : Mm) (nc ns : Nat) : Run sa E MC MS HX Q X kX11_turnAt 32 L st M nc ns = bk sa E MC MS HX (Run sa E MC MS HX Q X kX11_turnAt) Q X kX11_turnAt_32 L st M nc ns := Run_eq sa E MC MS HX Q X _ _ _ _ _ _ _
theorem rX11_turnAt_40 (sa : Nat → Nat) (E : Nat → Sem) (MC MS : Nat) (HX : Nat → Nat → Option Nat) (Q : Option Value → Mm → Prop) (X : Nat → Mm → Prop) (L : List Slot) (st : List Value) (M : Mm) (nc ns : Nat) : Run sa E MC MS HX Q X kX11_turnAt 40 L st M nc ns = bk sa E MC MS HX (Run sa E MC MS HX Q X kX11_turnAt) Q X kX11_turnAt_40 L st M nc ns := Run_eq sa E MC MS HX Q X _ _ _ _ _ _ _
def kX11_undo_0 : List Item := [(0, .aload_n 0, 1, 3, 0, 0, 0, 0, [], .null),
    (1, .iconst 0, 1, 0, 0, 0, 0, 0, [], .int 0),
    (2, .putfield 42, 3, 27, 11, 0, 0, 0, [], .null),
    (5, .aload_n 0, 1, 3, 0, 0, 0, 0, [], .null),
    (6, .getfield 254, 3, 24, 11, 12, 0, 0, [], .null),
    (9, .ifCond .ne 5, 3, 20, 14, 1, 0, 0, [], .null),
    (12, .iconst (-1), 1, 0, 0, 0, 0, 0, [], .int (-1)),
    (13, .ireturn, 1, 56, 0, 0, 0, 0, [], .null)]
def kX11_undo_14 : List Item := [(14, .aload_n 0, 1, 3, 0, 0, 0, 0, [], .null),
    (15, .dup, 1, 16, 0, 0, 0, 0, [], .null),
    (16, .getfield 254, 3, 24, 11, 12, 0, 0, [], .null),
    (19, .iconst 1, 1, 0, 0, 0, 0, 0, [], .int 1),
    (20, .isub, 1, 8, 0, 1, 0, 0, [], .null),
    (21, .putfield 254, 3, 27, 11, 12, 0, 0, [], .null),
    (24, .aload_n 0, 1, 3, 0, 0, 0, 0, [], .null),
    (25, .getfield 28, 3, 26, 11, 11, 0, 0, [], .null),
    (28, .aload_n 0, 1, 3, 0, 0, 0, 0, [], .null),
    (29, .getfield 254, 3, 24, 11, 12, 0, 0, [], .null),
    (32, .aaload, 1, 33, 5, 0, 0, 0, [], .null),
    (33, .aload_n 0, 1, 3, 0, 0, 0, 0, [], .null),
    (34, .getfield 17, 3, 26, 11, 8, 0, 0, [], .null),
    (37, .invokestatic 179, 3, 48, 117, 2, 0, 0, [], .null),
    (40, .aload_n 0, 1, 3, 0, 0, 0, 0, [], .null),
    (41, .getfield 254, 3, 24, 11, 12, 0, 0, [], .null),
    (44, .ireturn, 1, 56, 0, 0, 0, 0, [], .null)]
def kX11_undo : Code9 := [(0, kX11_undo_0), (14, kX11_undo_14)]
theorem rX11_undo_0 (sa : Nat → Nat) (E : Nat → Sem) (MC MS : Nat) (HX : Nat → Nat → Option Nat) (Q : Option Value → Mm → Prop) (X : Nat → Mm → Prop) (L : List Slot) (st : List Value) (M : Mm) (nc ns : Nat) : Run sa E MC MS HX Q X kX11_undo 0 L st M nc ns = bk sa E MC MS HX (Run sa E MC MS HX Q X kX11_undo) Q X kX11_undo_0 L st M nc ns := Run_eq sa E MC MS HX Q X _ _ _ _ _ _ _
theorem rX11_undo_14 (sa : Nat → Nat) (E : Nat → Sem) (MC MS : Nat) (HX : Nat → Nat → Option Nat) (Q : Option Value → Mm → Prop) (X : Nat → Mm → Prop) (L : List Slot) (st : List Value) (M : Mm) (nc ns : Nat) : Run sa E MC MS HX Q X kX11_undo 14 L st M nc ns = bk sa E MC MS HX (Run sa E MC MS HX Q X kX11_undo) Q X kX11_undo_14 L st M nc ns := Run_eq sa E MC MS HX Q X _ _ _ _ _ _ _
def kX11_water_0 : List Item := [(0, .aload_n 0, 1, 3, 0, 0, 0, 0, [], .null),
    (1, .iconst 0, 1, 0, 0, 0, 0, 0, [], .int 0),
    (2, .putfield 42, 3, 27, 11, 0, 0, 0, [], .null),
    (5, .aload_n 0, 1, 3, 0, 0, 0, 0, [], .null),
    (6, .iload_n 1, 1, 1, 1, 0, 0, 0, [], .null),
    (7, .invokevirtual 239, 3, 48, 153, 2, 0, 0, [11], .null),
    (10, .ifCond .eq 7, 3, 20, 17, 0, 0, 0, [], .null),
    (13, .iconst 0, 1, 0, 0, 0, 0, 0, [], .int 0),
    (14, .goto 15, 3, 22, 29, 0, 0, 0, [], .null)]
def kX11_water_17 : List Item := [(17, .aload_n 0, 1, 3, 0, 0, 0, 0, [], .null),
    (18, .getfield 17, 3, 26, 11, 8, 0, 0, [], .null),
    (21, .iload_n 1, 1, 1, 1, 0, 0, 0, [], .null),
    (22, .invokestatic 140, 3, 48, 131, 1, 0, 0, [], .null),
    (25, .bipush 7, 2, 0, 0, 0, 0, 0, [], .int 7),
    (27, .iadd, 1, 8, 0, 0, 0, 0, [], .null),
    (28, .iaload, 1, 31, 0, 0, 0, 0, [], .null),
    (29, .ireturn, 1, 56, 0, 0, 0, 0, [], .null)]
def kX11_water_29 : List Item := [(29, .ireturn, 1, 56, 0, 0, 0, 0, [], .null)]
def kX11_water : Code9 := [(0, kX11_water_0), (17, kX11_water_17), (29, kX11_water_29)]
theorem rX11_water_0 (sa : Nat → Nat) (E : Nat → Sem) (MC MS : Nat) (HX : Nat → Nat → Option Nat) (Q : Option Value → Mm → Prop) (X : Nat → Mm → Prop) (L : List Slot) (st : List Value) (M : Mm) (nc ns : Nat) : Run sa E MC MS HX Q X kX11_water 0 L st M nc ns = bk sa E MC MS HX (Run sa E MC MS HX Q X kX11_water) Q X kX11_water_0 L st M nc ns := Run_eq sa E MC MS HX Q X _ _ _ _ _ _ _
theorem rX11_water_17 (sa : Nat → Nat) (E : Nat → Sem) (MC MS : Nat) (HX : Nat → Nat → Option Nat) (Q : Option Value → Mm → Prop) (X : Nat → Mm → Prop) (L : List Slot) (st : List Value) (M : Mm) (nc ns : Nat) : Run sa E MC MS HX Q X kX11_water 17 L st M nc ns = bk sa E MC MS HX (Run sa E MC MS HX Q X kX11_water) Q X kX11_water_17 L st M nc ns := Run_eq sa E MC MS HX Q X _ _ _ _ _ _ _
theorem rX11_water_29 (sa : Nat → Nat) (E : Nat → Sem) (MC MS : Nat) (HX : Nat → Nat → Option Nat) (Q : Option Value → Mm → Prop) (X : Nat → Mm → Prop) (L : List Slot) (st : List Value) (M : Mm) (nc ns : Nat) : Run sa E MC MS HX Q X kX11_water 29 L st M nc ns = bk sa E MC MS HX (Run sa E MC MS HX Q X kX11_water) Q X kX11_water_29 L st M nc ns := Run_eq sa E MC MS HX Q X _ _ _ _ _ _ _
def kX11_waterIn_0 : List Item := [(0, .aload_n 0, 1, 3, 0, 0, 0, 0, [], .null),
    (1, .iconst 0, 1, 0, 0, 0, 0, 0, [], .int 0),
    (2, .putfield 42, 3, 27, 11, 0, 0, 0, [], .null),
    (5, .aload_n 0, 1, 3, 0, 0, 0, 0, [], .null),
    (6, .iload_n 1, 1, 1, 1, 0, 0, 0, [], .null),
    (7, .invokevirtual 236, 3, 48, 152, 2, 0, 0, [11], .null),
    (10, .ifCond .ne 25, 3, 20, 35, 1, 0, 0, [], .null),
    (13, .aload_n 0, 1, 3, 0, 0, 0, 0, [], .null),
    (14, .iload_n 2, 1, 1, 2, 0, 0, 0, [], .null),
    (15, .iconst 0, 1, 0, 0, 0, 0, 0, [], .int 0),
    (16, .iconst 5, 1, 0, 0, 0, 0, 0, [], .int 5),
    (17, .invokestatic 64, 3, 48, 139, 3, 0, 0, [], .null),
    (20, .ifCond .ne 7, 3, 20, 27, 1, 0, 0, [], .null),
    (23, .iconst 1, 1, 0, 0, 0, 0, 0, [], .int 1),
    (24, .goto 4, 3, 22, 28, 0, 0, 0, [], .null)]
def kX11_waterIn_27 : List Item := [(27, .iconst 0, 1, 0, 0, 0, 0, 0, [], .int 0),
    (28, .iconst 2, 1, 0, 0, 0, 0, 0, [], .int 2),
    (29, .invokevirtual 169, 3, 48, 129, 3, 0, 0, [11], .null),
    (32, .ifCond .eq 7, 3, 20, 39, 0, 0, 0, [], .null),
    (35, .iconst 0, 1, 0, 0, 0, 0, 0, [], .int 0),
    (36, .goto 17, 3, 22, 53, 0, 0, 0, [], .null)]
def kX11_waterIn_28 : List Item := [(28, .iconst 2, 1, 0, 0, 0, 0, 0, [], .int 2),
    (29, .invokevirtual 169, 3, 48, 129, 3, 0, 0, [11], .null),
    (32, .ifCond .eq 7, 3, 20, 39, 0, 0, 0, [], .null),
    (35, .iconst 0, 1, 0, 0, 0, 0, 0, [], .int 0),
    (36, .goto 17, 3, 22, 53, 0, 0, 0, [], .null)]
def kX11_waterIn_35 : List Item := [(35, .iconst 0, 1, 0, 0, 0, 0, 0, [], .int 0),
    (36, .goto 17, 3, 22, 53, 0, 0, 0, [], .null)]
def kX11_waterIn_39 : List Item := [(39, .aload_n 0, 1, 3, 0, 0, 0, 0, [], .null),
    (40, .getfield 17, 3, 26, 11, 8, 0, 0, [], .null),
    (43, .iload_n 1, 1, 1, 1, 0, 0, 0, [], .null),
    (44, .invokestatic 133, 3, 48, 113, 1, 0, 0, [], .null),
    (47, .bipush 6, 2, 0, 0, 0, 0, 0, [], .int 6),
    (49, .iadd, 1, 8, 0, 0, 0, 0, [], .null),
    (50, .iload_n 2, 1, 1, 2, 0, 0, 0, [], .null),
    (51, .iadd, 1, 8, 0, 0, 0, 0, [], .null),
    (52, .iaload, 1, 31, 0, 0, 0, 0, [], .null),
    (53, .ireturn, 1, 56, 0, 0, 0, 0, [], .null)]
def kX11_waterIn_53 : List Item := [(53, .ireturn, 1, 56, 0, 0, 0, 0, [], .null)]
def kX11_waterIn : Code9 := [(0, kX11_waterIn_0), (27, kX11_waterIn_27), (28, kX11_waterIn_28), (35, kX11_waterIn_35), (39, kX11_waterIn_39), (53, kX11_waterIn_53)]
theorem rX11_waterIn_0 (sa : Nat → Nat) (E : Nat → Sem) (MC MS : Nat) (HX : Nat → Nat → Option Nat) (Q : Option Value → Mm → Prop) (X : Nat → Mm → Prop) (L : List Slot) (st : List Value) (M : Mm) (nc ns : Nat) : Run sa E MC MS HX Q X kX11_waterIn 0 L st M nc ns = bk sa E MC MS HX (Run sa E MC MS HX Q X kX11_waterIn) Q X kX11_waterIn_0 L st M nc ns := Run_eq sa E MC MS HX Q X _ _ _ _ _ _ _
theorem rX11_waterIn_27 (sa : Nat → Nat) (E : Nat → Sem) (MC MS : Nat) (HX : Nat → Nat → Option Nat) (Q : Option Value → Mm → Prop) (X : Nat → Mm → Prop) (L : List Slot) (st : List Value) (M : Mm) (nc ns : Nat) : Run sa E MC MS HX Q X kX11_waterIn 27 L st M nc ns = bk sa E MC MS HX (Run sa E MC MS HX Q X kX11_waterIn) Q X kX11_waterIn_27 L st M nc ns := Run_eq sa E MC MS HX Q X _ _ _ _ _ _ _
theorem rX11_waterIn_28 (sa : Nat → Nat) (E : Nat → Sem) (MC MS : Nat) (HX : Nat → Nat → Option Nat) (Q : Option Value → Mm → Prop) (X : Nat → Mm → Prop) (L : List Slot) (st : List Value) (M : Mm) (nc ns : Nat) : Run sa E MC MS HX Q X kX11_waterIn 28 L st M nc ns = bk sa E MC MS HX (Run sa E MC MS HX Q X kX11_waterIn) Q X kX11_waterIn_28 L st M nc ns := Run_eq sa E MC MS HX Q X _ _ _ _ _ _ _
theorem rX11_waterIn_35 (sa : Nat → Nat) (E : Nat → Sem) (MC MS : Nat) (HX : Nat → Nat → Option Nat) (Q : Option Value → Mm → Prop) (X : Nat → Mm → Prop) (L : List Slot) (st : List Value) (M : Mm) (nc ns : Nat) : Run sa E MC MS HX Q X kX11_waterIn 35 L st M nc ns = bk sa E MC MS HX (Run sa E MC MS HX Q X kX11_waterIn) Q X kX11_waterIn_35 L st M nc ns := Run_eq sa E MC MS HX Q X _ _ _ _ _ _ _
theorem rX11_waterIn_39 (sa : Nat → Nat) (E : Nat → Sem) (MC MS : Nat) (HX : Nat → Nat → Option Nat) (Q : Option Value → Mm → Prop) (X : Nat → Mm → Prop) (L : List Slot) (st : List Value) (M : Mm) (nc ns : Nat) : Run sa E MC MS HX Q X kX11_waterIn 39 L st M nc ns = bk sa E MC MS HX (Run sa E MC MS HX Q X kX11_waterIn) Q X kX11_waterIn_39 L st M nc ns := Run_eq sa E MC MS HX Q X _ _ _ _ _ _ _
theorem rX11_waterIn_53 (sa : Nat → Nat) (E : Nat → Sem) (MC MS : Nat) (HX : Nat → Nat → Option Nat) (Q : Option Value → Mm → Prop) (X : Nat → Mm → Prop) (L : List Slot) (st : List Value) (M : Mm) (nc ns : Nat) : Run sa E MC MS HX Q X kX11_waterIn 53 L st M nc ns = bk sa E MC MS HX (Run sa E MC MS HX Q X kX11_waterIn) Q X kX11_waterIn_53 L st M nc ns := Run_eq sa E MC MS HX Q X _ _ _ _ _ _ _
def kL_arrived_0 : List Item := [(0, .aload_n 2, 1, 3, 2, 0, 0, 0, [], .null),
    (1, .iconst 0, 1, 0, 0, 0, 0, 0, [], .int 0),
    (2, .aload_n 0, 1, 3, 0, 0, 0, 0, [], .null),
    (3, .iload_n 1, 1, 1, 1, 0, 0, 0, [], .null),
    (4, .invokevirtual 30, 3, 48, 76, 2, 1, 6, [10], .null),
    (7, .i2l, 1, 12, 0, 0, 0, 0, [], .null),
    (8, .lastore, 1, 36, 0, 0, 0, 0, [], .null),
    (9, .goto 6, 3, 22, 15, 0, 0, 0, [], .null)]
def kL_arrived_12 : List Item := [(12, .astore_n 3, 1, 5, 3, 0, 0, 0, [], .null),
    (13, .iconst 1, 1, 0, 0, 0, 0, 0, [], .int 1),
    (14, .ireturn, 1, 56, 0, 0, 0, 0, [], .null)]
def kL_arrived_15 : List Item := [(15, .iconst 0, 1, 0, 0, 0, 0, 0, [], .int 0),
    (16, .ireturn, 1, 56, 0, 0, 0, 0, [], .null)]
def kL_arrived : Code9 := [(0, kL_arrived_0), (12, kL_arrived_12), (15, kL_arrived_15)]
theorem rL_arrived_0 (sa : Nat → Nat) (E : Nat → Sem) (MC MS : Nat) (HX : Nat → Nat → Option Nat) (Q : Option Value → Mm → Prop) (X : Nat → Mm → Prop) (L : List Slot) (st : List Value) (M : Mm) (nc ns : Nat) : Run sa E MC MS HX Q X kL_arrived 0 L st M nc ns = bk sa E MC MS HX (Run sa E MC MS HX Q X kL_arrived) Q X kL_arrived_0 L st M nc ns := Run_eq sa E MC MS HX Q X _ _ _ _ _ _ _
theorem rL_arrived_12 (sa : Nat → Nat) (E : Nat → Sem) (MC MS : Nat) (HX : Nat → Nat → Option Nat) (Q : Option Value → Mm → Prop) (X : Nat → Mm → Prop) (L : List Slot) (st : List Value) (M : Mm) (nc ns : Nat) : Run sa E MC MS HX Q X kL_arrived 12 L st M nc ns = bk sa E MC MS HX (Run sa E MC MS HX Q X kL_arrived) Q X kL_arrived_12 L st M nc ns := Run_eq sa E MC MS HX Q X _ _ _ _ _ _ _
theorem rL_arrived_15 (sa : Nat → Nat) (E : Nat → Sem) (MC MS : Nat) (HX : Nat → Nat → Option Nat) (Q : Option Value → Mm → Prop) (X : Nat → Mm → Prop) (L : List Slot) (st : List Value) (M : Mm) (nc ns : Nat) : Run sa E MC MS HX Q X kL_arrived 15 L st M nc ns = bk sa E MC MS HX (Run sa E MC MS HX Q X kL_arrived) Q X kL_arrived_15 L st M nc ns := Run_eq sa E MC MS HX Q X _ _ _ _ _ _ _
def kL_expected_0 : List Item := [(0, .aload_n 3, 1, 3, 3, 0, 0, 0, [], .null),
    (1, .iconst 0, 1, 0, 0, 0, 0, 0, [], .int 0),
    (2, .aload_n 0, 1, 3, 0, 0, 0, 0, [], .null),
    (3, .iload_n 1, 1, 1, 1, 0, 0, 0, [], .null),
    (4, .iload_n 2, 1, 1, 2, 0, 0, 0, [], .null),
    (5, .invokevirtual 62, 3, 48, 83, 3, 2, 12, [10], .null),
    (8, .i2l, 1, 12, 0, 0, 0, 0, [], .null),
    (9, .lastore, 1, 36, 0, 0, 0, 0, [], .null),
    (10, .goto 11, 3, 22, 21, 0, 0, 0, [], .null)]
def kL_expected_13 : List Item := [(13, .astore 4, 2, 5, 4, 0, 0, 0, [], .null),
    (15, .iconst 1, 1, 0, 0, 0, 0, 0, [], .int 1),
    (16, .ireturn, 1, 56, 0, 0, 0, 0, [], .null)]
def kL_expected_17 : List Item := [(17, .astore 4, 2, 5, 4, 0, 0, 0, [], .null),
    (19, .iconst 2, 1, 0, 0, 0, 0, 0, [], .int 2),
    (20, .ireturn, 1, 56, 0, 0, 0, 0, [], .null)]
def kL_expected_21 : List Item := [(21, .iconst 0, 1, 0, 0, 0, 0, 0, [], .int 0),
    (22, .ireturn, 1, 56, 0, 0, 0, 0, [], .null)]
def kL_expected : Code9 := [(0, kL_expected_0), (13, kL_expected_13), (17, kL_expected_17), (21, kL_expected_21)]
theorem rL_expected_0 (sa : Nat → Nat) (E : Nat → Sem) (MC MS : Nat) (HX : Nat → Nat → Option Nat) (Q : Option Value → Mm → Prop) (X : Nat → Mm → Prop) (L : List Slot) (st : List Value) (M : Mm) (nc ns : Nat) : Run sa E MC MS HX Q X kL_expected 0 L st M nc ns = bk sa E MC MS HX (Run sa E MC MS HX Q X kL_expected) Q X kL_expected_0 L st M nc ns := Run_eq sa E MC MS HX Q X _ _ _ _ _ _ _
theorem rL_expected_13 (sa : Nat → Nat) (E : Nat → Sem) (MC MS : Nat) (HX : Nat → Nat → Option Nat) (Q : Option Value → Mm → Prop) (X : Nat → Mm → Prop) (L : List Slot) (st : List Value) (M : Mm) (nc ns : Nat) : Run sa E MC MS HX Q X kL_expected 13 L st M nc ns = bk sa E MC MS HX (Run sa E MC MS HX Q X kL_expected) Q X kL_expected_13 L st M nc ns := Run_eq sa E MC MS HX Q X _ _ _ _ _ _ _
theorem rL_expected_17 (sa : Nat → Nat) (E : Nat → Sem) (MC MS : Nat) (HX : Nat → Nat → Option Nat) (Q : Option Value → Mm → Prop) (X : Nat → Mm → Prop) (L : List Slot) (st : List Value) (M : Mm) (nc ns : Nat) : Run sa E MC MS HX Q X kL_expected 17 L st M nc ns = bk sa E MC MS HX (Run sa E MC MS HX Q X kL_expected) Q X kL_expected_17 L st M nc ns := Run_eq sa E MC MS HX Q X _ _ _ _ _ _ _
theorem rL_expected_21 (sa : Nat → Nat) (E : Nat → Sem) (MC MS : Nat) (HX : Nat → Nat → Option Nat) (Q : Option Value → Mm → Prop) (X : Nat → Mm → Prop) (L : List Slot) (st : List Value) (M : Mm) (nc ns : Nat) : Run sa E MC MS HX Q X kL_expected 21 L st M nc ns = bk sa E MC MS HX (Run sa E MC MS HX Q X kL_expected) Q X kL_expected_21 L st M nc ns := Run_eq sa E MC MS HX Q X _ _ _ _ _ _ _
def kL_fairHours_0 : List Item := [(0, .aload_n 3, 1, 3, 3, 0, 0, 0, [], .null),
    (1, .iconst 0, 1, 0, 0, 0, 0, 0, [], .int 0),
    (2, .aload_n 0, 1, 3, 0, 0, 0, 0, [], .null),
    (3, .iload_n 1, 1, 1, 1, 0, 0, 0, [], .null),
    (4, .iload_n 2, 1, 1, 2, 0, 0, 0, [], .null),
    (5, .invokevirtual 56, 3, 48, 84, 3, 2, 12, [10], .null),
    (8, .i2l, 1, 12, 0, 0, 0, 0, [], .null),
    (9, .lastore, 1, 36, 0, 0, 0, 0, [], .null),
    (10, .goto 11, 3, 22, 21, 0, 0, 0, [], .null)]
def kL_fairHours_13 : List Item := [(13, .astore 4, 2, 5, 4, 0, 0, 0, [], .null),
    (15, .iconst 1, 1, 0, 0, 0, 0, 0, [], .int 1),
    (16, .ireturn, 1, 56, 0, 0, 0, 0, [], .null)]
def kL_fairHours_17 : List Item := [(17, .astore 4, 2, 5, 4, 0, 0, 0, [], .null),
    (19, .iconst 2, 1, 0, 0, 0, 0, 0, [], .int 2),
    (20, .ireturn, 1, 56, 0, 0, 0, 0, [], .null)]
def kL_fairHours_21 : List Item := [(21, .iconst 0, 1, 0, 0, 0, 0, 0, [], .int 0),
    (22, .ireturn, 1, 56, 0, 0, 0, 0, [], .null)]
def kL_fairHours : Code9 := [(0, kL_fairHours_0), (13, kL_fairHours_13), (17, kL_fairHours_17), (21, kL_fairHours_21)]
theorem rL_fairHours_0 (sa : Nat → Nat) (E : Nat → Sem) (MC MS : Nat) (HX : Nat → Nat → Option Nat) (Q : Option Value → Mm → Prop) (X : Nat → Mm → Prop) (L : List Slot) (st : List Value) (M : Mm) (nc ns : Nat) : Run sa E MC MS HX Q X kL_fairHours 0 L st M nc ns = bk sa E MC MS HX (Run sa E MC MS HX Q X kL_fairHours) Q X kL_fairHours_0 L st M nc ns := Run_eq sa E MC MS HX Q X _ _ _ _ _ _ _
theorem rL_fairHours_13 (sa : Nat → Nat) (E : Nat → Sem) (MC MS : Nat) (HX : Nat → Nat → Option Nat) (Q : Option Value → Mm → Prop) (X : Nat → Mm → Prop) (L : List Slot) (st : List Value) (M : Mm) (nc ns : Nat) : Run sa E MC MS HX Q X kL_fairHours 13 L st M nc ns = bk sa E MC MS HX (Run sa E MC MS HX Q X kL_fairHours) Q X kL_fairHours_13 L st M nc ns := Run_eq sa E MC MS HX Q X _ _ _ _ _ _ _
theorem rL_fairHours_17 (sa : Nat → Nat) (E : Nat → Sem) (MC MS : Nat) (HX : Nat → Nat → Option Nat) (Q : Option Value → Mm → Prop) (X : Nat → Mm → Prop) (L : List Slot) (st : List Value) (M : Mm) (nc ns : Nat) : Run sa E MC MS HX Q X kL_fairHours 17 L st M nc ns = bk sa E MC MS HX (Run sa E MC MS HX Q X kL_fairHours) Q X kL_fairHours_17 L st M nc ns := Run_eq sa E MC MS HX Q X _ _ _ _ _ _ _
theorem rL_fairHours_21 (sa : Nat → Nat) (E : Nat → Sem) (MC MS : Nat) (HX : Nat → Nat → Option Nat) (Q : Option Value → Mm → Prop) (X : Nat → Mm → Prop) (L : List Slot) (st : List Value) (M : Mm) (nc ns : Nat) : Run sa E MC MS HX Q X kL_fairHours 21 L st M nc ns = bk sa E MC MS HX (Run sa E MC MS HX Q X kL_fairHours) Q X kL_fairHours_21 L st M nc ns := Run_eq sa E MC MS HX Q X _ _ _ _ _ _ _
def kL_fines_0 : List Item := [(0, .aload_n 2, 1, 3, 2, 0, 0, 0, [], .null),
    (1, .iconst 0, 1, 0, 0, 0, 0, 0, [], .int 0),
    (2, .aload_n 0, 1, 3, 0, 0, 0, 0, [], .null),
    (3, .iload_n 1, 1, 1, 1, 0, 0, 0, [], .null),
    (4, .invokevirtual 49, 3, 48, 86, 2, 1, 6, [10], .null),
    (7, .i2l, 1, 12, 0, 0, 0, 0, [], .null),
    (8, .lastore, 1, 36, 0, 0, 0, 0, [], .null),
    (9, .goto 6, 3, 22, 15, 0, 0, 0, [], .null)]
def kL_fines_12 : List Item := [(12, .astore_n 3, 1, 5, 3, 0, 0, 0, [], .null),
    (13, .iconst 1, 1, 0, 0, 0, 0, 0, [], .int 1),
    (14, .ireturn, 1, 56, 0, 0, 0, 0, [], .null)]
def kL_fines_15 : List Item := [(15, .iconst 0, 1, 0, 0, 0, 0, 0, [], .int 0),
    (16, .ireturn, 1, 56, 0, 0, 0, 0, [], .null)]
def kL_fines : Code9 := [(0, kL_fines_0), (12, kL_fines_12), (15, kL_fines_15)]
theorem rL_fines_0 (sa : Nat → Nat) (E : Nat → Sem) (MC MS : Nat) (HX : Nat → Nat → Option Nat) (Q : Option Value → Mm → Prop) (X : Nat → Mm → Prop) (L : List Slot) (st : List Value) (M : Mm) (nc ns : Nat) : Run sa E MC MS HX Q X kL_fines 0 L st M nc ns = bk sa E MC MS HX (Run sa E MC MS HX Q X kL_fines) Q X kL_fines_0 L st M nc ns := Run_eq sa E MC MS HX Q X _ _ _ _ _ _ _
theorem rL_fines_12 (sa : Nat → Nat) (E : Nat → Sem) (MC MS : Nat) (HX : Nat → Nat → Option Nat) (Q : Option Value → Mm → Prop) (X : Nat → Mm → Prop) (L : List Slot) (st : List Value) (M : Mm) (nc ns : Nat) : Run sa E MC MS HX Q X kL_fines 12 L st M nc ns = bk sa E MC MS HX (Run sa E MC MS HX Q X kL_fines) Q X kL_fines_12 L st M nc ns := Run_eq sa E MC MS HX Q X _ _ _ _ _ _ _
theorem rL_fines_15 (sa : Nat → Nat) (E : Nat → Sem) (MC MS : Nat) (HX : Nat → Nat → Option Nat) (Q : Option Value → Mm → Prop) (X : Nat → Mm → Prop) (L : List Slot) (st : List Value) (M : Mm) (nc ns : Nat) : Run sa E MC MS HX Q X kL_fines 15 L st M nc ns = bk sa E MC MS HX (Run sa E MC MS HX Q X kL_fines) Q X kL_fines_15 L st M nc ns := Run_eq sa E MC MS HX Q X _ _ _ _ _ _ _
def kL_force_0 : List Item := [(0, .aload_n 2, 1, 3, 2, 0, 0, 0, [], .null),
    (1, .iconst 0, 1, 0, 0, 0, 0, 0, [], .int 0),
    (2, .aload_n 0, 1, 3, 0, 0, 0, 0, [], .null),
    (3, .iload_n 1, 1, 1, 1, 0, 0, 0, [], .null),
    (4, .invokevirtual 74, 3, 48, 87, 2, 2, 12, [10], .null),
    (7, .i2l, 1, 12, 0, 0, 0, 0, [], .null),
    (8, .lastore, 1, 36, 0, 0, 0, 0, [], .null),
    (9, .goto 9, 3, 22, 18, 0, 0, 0, [], .null)]
def kL_force_12 : List Item := [(12, .astore_n 3, 1, 5, 3, 0, 0, 0, [], .null),
    (13, .iconst 1, 1, 0, 0, 0, 0, 0, [], .int 1),
    (14, .ireturn, 1, 56, 0, 0, 0, 0, [], .null)]
def kL_force_15 : List Item := [(15, .astore_n 3, 1, 5, 3, 0, 0, 0, [], .null),
    (16, .iconst 2, 1, 0, 0, 0, 0, 0, [], .int 2),
    (17, .ireturn, 1, 56, 0, 0, 0, 0, [], .null)]
def kL_force_18 : List Item := [(18, .iconst 0, 1, 0, 0, 0, 0, 0, [], .int 0),
    (19, .ireturn, 1, 56, 0, 0, 0, 0, [], .null)]
def kL_force : Code9 := [(0, kL_force_0), (12, kL_force_12), (15, kL_force_15), (18, kL_force_18)]
theorem rL_force_0 (sa : Nat → Nat) (E : Nat → Sem) (MC MS : Nat) (HX : Nat → Nat → Option Nat) (Q : Option Value → Mm → Prop) (X : Nat → Mm → Prop) (L : List Slot) (st : List Value) (M : Mm) (nc ns : Nat) : Run sa E MC MS HX Q X kL_force 0 L st M nc ns = bk sa E MC MS HX (Run sa E MC MS HX Q X kL_force) Q X kL_force_0 L st M nc ns := Run_eq sa E MC MS HX Q X _ _ _ _ _ _ _
theorem rL_force_12 (sa : Nat → Nat) (E : Nat → Sem) (MC MS : Nat) (HX : Nat → Nat → Option Nat) (Q : Option Value → Mm → Prop) (X : Nat → Mm → Prop) (L : List Slot) (st : List Value) (M : Mm) (nc ns : Nat) : Run sa E MC MS HX Q X kL_force 12 L st M nc ns = bk sa E MC MS HX (Run sa E MC MS HX Q X kL_force) Q X kL_force_12 L st M nc ns := Run_eq sa E MC MS HX Q X _ _ _ _ _ _ _
theorem rL_force_15 (sa : Nat → Nat) (E : Nat → Sem) (MC MS : Nat) (HX : Nat → Nat → Option Nat) (Q : Option Value → Mm → Prop) (X : Nat → Mm → Prop) (L : List Slot) (st : List Value) (M : Mm) (nc ns : Nat) : Run sa E MC MS HX Q X kL_force 15 L st M nc ns = bk sa E MC MS HX (Run sa E MC MS HX Q X kL_force) Q X kL_force_15 L st M nc ns := Run_eq sa E MC MS HX Q X _ _ _ _ _ _ _
theorem rL_force_18 (sa : Nat → Nat) (E : Nat → Sem) (MC MS : Nat) (HX : Nat → Nat → Option Nat) (Q : Option Value → Mm → Prop) (X : Nat → Mm → Prop) (L : List Slot) (st : List Value) (M : Mm) (nc ns : Nat) : Run sa E MC MS HX Q X kL_force 18 L st M nc ns = bk sa E MC MS HX (Run sa E MC MS HX Q X kL_force) Q X kL_force_18 L st M nc ns := Run_eq sa E MC MS HX Q X _ _ _ _ _ _ _
def kL_hoursUntil_0 : List Item := [(0, .aload_n 3, 1, 3, 3, 0, 0, 0, [], .null),
    (1, .iconst 0, 1, 0, 0, 0, 0, 0, [], .int 0),
    (2, .aload_n 0, 1, 3, 0, 0, 0, 0, [], .null),
    (3, .iload_n 1, 1, 1, 1, 0, 0, 0, [], .null),
    (4, .iload_n 2, 1, 1, 2, 0, 0, 0, [], .null),
    (5, .invokevirtual 59, 3, 48, 90, 3, 2, 12, [10], .null),
    (8, .i2l, 1, 12, 0, 0, 0, 0, [], .null),
    (9, .lastore, 1, 36, 0, 0, 0, 0, [], .null),
    (10, .goto 11, 3, 22, 21, 0, 0, 0, [], .null)]
def kL_hoursUntil_13 : List Item := [(13, .astore 4, 2, 5, 4, 0, 0, 0, [], .null),
    (15, .iconst 1, 1, 0, 0, 0, 0, 0, [], .int 1),
    (16, .ireturn, 1, 56, 0, 0, 0, 0, [], .null)]
def kL_hoursUntil_17 : List Item := [(17, .astore 4, 2, 5, 4, 0, 0, 0, [], .null),
    (19, .iconst 2, 1, 0, 0, 0, 0, 0, [], .int 2),
    (20, .ireturn, 1, 56, 0, 0, 0, 0, [], .null)]
def kL_hoursUntil_21 : List Item := [(21, .iconst 0, 1, 0, 0, 0, 0, 0, [], .int 0),
    (22, .ireturn, 1, 56, 0, 0, 0, 0, [], .null)]
def kL_hoursUntil : Code9 := [(0, kL_hoursUntil_0), (13, kL_hoursUntil_13), (17, kL_hoursUntil_17), (21, kL_hoursUntil_21)]
theorem rL_hoursUntil_0 (sa : Nat → Nat) (E : Nat → Sem) (MC MS : Nat) (HX : Nat → Nat → Option Nat) (Q : Option Value → Mm → Prop) (X : Nat → Mm → Prop) (L : List Slot) (st : List Value) (M : Mm) (nc ns : Nat) : Run sa E MC MS HX Q X kL_hoursUntil 0 L st M nc ns = bk sa E MC MS HX (Run sa E MC MS HX Q X kL_hoursUntil) Q X kL_hoursUntil_0 L st M nc ns := Run_eq sa E MC MS HX Q X _ _ _ _ _ _ _
theorem rL_hoursUntil_13 (sa : Nat → Nat) (E : Nat → Sem) (MC MS : Nat) (HX : Nat → Nat → Option Nat) (Q : Option Value → Mm → Prop) (X : Nat → Mm → Prop) (L : List Slot) (st : List Value) (M : Mm) (nc ns : Nat) : Run sa E MC MS HX Q X kL_hoursUntil 13 L st M nc ns = bk sa E MC MS HX (Run sa E MC MS HX Q X kL_hoursUntil) Q X kL_hoursUntil_13 L st M nc ns := Run_eq sa E MC MS HX Q X _ _ _ _ _ _ _
theorem rL_hoursUntil_17 (sa : Nat → Nat) (E : Nat → Sem) (MC MS : Nat) (HX : Nat → Nat → Option Nat) (Q : Option Value → Mm → Prop) (X : Nat → Mm → Prop) (L : List Slot) (st : List Value) (M : Mm) (nc ns : Nat) : Run sa E MC MS HX Q X kL_hoursUntil 17 L st M nc ns = bk sa E MC MS HX (Run sa E MC MS HX Q X kL_hoursUntil) Q X kL_hoursUntil_17 L st M nc ns := Run_eq sa E MC MS HX Q X _ _ _ _ _ _ _
theorem rL_hoursUntil_21 (sa : Nat → Nat) (E : Nat → Sem) (MC MS : Nat) (HX : Nat → Nat → Option Nat) (Q : Option Value → Mm → Prop) (X : Nat → Mm → Prop) (L : List Slot) (st : List Value) (M : Mm) (nc ns : Nat) : Run sa E MC MS HX Q X kL_hoursUntil 21 L st M nc ns = bk sa E MC MS HX (Run sa E MC MS HX Q X kL_hoursUntil) Q X kL_hoursUntil_21 L st M nc ns := Run_eq sa E MC MS HX Q X _ _ _ _ _ _ _
def kL_inflow_0 : List Item := [(0, .aload_n 2, 1, 3, 2, 0, 0, 0, [], .null),
    (1, .iconst 0, 1, 0, 0, 0, 0, 0, [], .int 0),
    (2, .aload_n 0, 1, 3, 0, 0, 0, 0, [], .null),
    (3, .iload_n 1, 1, 1, 1, 0, 0, 0, [], .null),
    (4, .invokevirtual 18, 3, 48, 91, 2, 1, 6, [10], .null),
    (7, .i2l, 1, 12, 0, 0, 0, 0, [], .null),
    (8, .lastore, 1, 36, 0, 0, 0, 0, [], .null),
    (9, .goto 6, 3, 22, 15, 0, 0, 0, [], .null)]
def kL_inflow_12 : List Item := [(12, .astore_n 3, 1, 5, 3, 0, 0, 0, [], .null),
    (13, .iconst 1, 1, 0, 0, 0, 0, 0, [], .int 1),
    (14, .ireturn, 1, 56, 0, 0, 0, 0, [], .null)]
def kL_inflow_15 : List Item := [(15, .iconst 0, 1, 0, 0, 0, 0, 0, [], .int 0),
    (16, .ireturn, 1, 56, 0, 0, 0, 0, [], .null)]
def kL_inflow : Code9 := [(0, kL_inflow_0), (12, kL_inflow_12), (15, kL_inflow_15)]
theorem rL_inflow_0 (sa : Nat → Nat) (E : Nat → Sem) (MC MS : Nat) (HX : Nat → Nat → Option Nat) (Q : Option Value → Mm → Prop) (X : Nat → Mm → Prop) (L : List Slot) (st : List Value) (M : Mm) (nc ns : Nat) : Run sa E MC MS HX Q X kL_inflow 0 L st M nc ns = bk sa E MC MS HX (Run sa E MC MS HX Q X kL_inflow) Q X kL_inflow_0 L st M nc ns := Run_eq sa E MC MS HX Q X _ _ _ _ _ _ _
theorem rL_inflow_12 (sa : Nat → Nat) (E : Nat → Sem) (MC MS : Nat) (HX : Nat → Nat → Option Nat) (Q : Option Value → Mm → Prop) (X : Nat → Mm → Prop) (L : List Slot) (st : List Value) (M : Mm) (nc ns : Nat) : Run sa E MC MS HX Q X kL_inflow 12 L st M nc ns = bk sa E MC MS HX (Run sa E MC MS HX Q X kL_inflow) Q X kL_inflow_12 L st M nc ns := Run_eq sa E MC MS HX Q X _ _ _ _ _ _ _
theorem rL_inflow_15 (sa : Nat → Nat) (E : Nat → Sem) (MC MS : Nat) (HX : Nat → Nat → Option Nat) (Q : Option Value → Mm → Prop) (X : Nat → Mm → Prop) (L : List Slot) (st : List Value) (M : Mm) (nc ns : Nat) : Run sa E MC MS HX Q X kL_inflow 15 L st M nc ns = bk sa E MC MS HX (Run sa E MC MS HX Q X kL_inflow) Q X kL_inflow_15 L st M nc ns := Run_eq sa E MC MS HX Q X _ _ _ _ _ _ _
def kL_isForced_0 : List Item := [(0, .aload_n 2, 1, 3, 2, 0, 0, 0, [], .null),
    (1, .iconst 0, 1, 0, 0, 0, 0, 0, [], .int 0),
    (2, .aload_n 0, 1, 3, 0, 0, 0, 0, [], .null),
    (3, .iload_n 1, 1, 1, 1, 0, 0, 0, [], .null),
    (4, .invokevirtual 37, 3, 48, 93, 2, 1, 6, [10], .null),
    (7, .ifCond .eq 7, 3, 20, 14, 0, 0, 0, [], .null),
    (10, .lconst 1, 1, 0, 0, 0, 0, 0, [], .long 1),
    (11, .goto 4, 3, 22, 15, 0, 0, 0, [], .null)]
def kL_isForced_14 : List Item := [(14, .lconst 0, 1, 0, 0, 0, 0, 0, [], .long 0),
    (15, .lastore, 1, 36, 0, 0, 0, 0, [], .null),
    (16, .goto 6, 3, 22, 22, 0, 0, 0, [], .null)]
def kL_isForced_15 : List Item := [(15, .lastore, 1, 36, 0, 0, 0, 0, [], .null),
    (16, .goto 6, 3, 22, 22, 0, 0, 0, [], .null)]
def kL_isForced_19 : List Item := [(19, .astore_n 3, 1, 5, 3, 0, 0, 0, [], .null),
    (20, .iconst 1, 1, 0, 0, 0, 0, 0, [], .int 1),
    (21, .ireturn, 1, 56, 0, 0, 0, 0, [], .null)]
def kL_isForced_22 : List Item := [(22, .iconst 0, 1, 0, 0, 0, 0, 0, [], .int 0),
    (23, .ireturn, 1, 56, 0, 0, 0, 0, [], .null)]
def kL_isForced : Code9 := [(0, kL_isForced_0), (14, kL_isForced_14), (15, kL_isForced_15), (19, kL_isForced_19), (22, kL_isForced_22)]
theorem rL_isForced_0 (sa : Nat → Nat) (E : Nat → Sem) (MC MS : Nat) (HX : Nat → Nat → Option Nat) (Q : Option Value → Mm → Prop) (X : Nat → Mm → Prop) (L : List Slot) (st : List Value) (M : Mm) (nc ns : Nat) : Run sa E MC MS HX Q X kL_isForced 0 L st M nc ns = bk sa E MC MS HX (Run sa E MC MS HX Q X kL_isForced) Q X kL_isForced_0 L st M nc ns := Run_eq sa E MC MS HX Q X _ _ _ _ _ _ _
theorem rL_isForced_14 (sa : Nat → Nat) (E : Nat → Sem) (MC MS : Nat) (HX : Nat → Nat → Option Nat) (Q : Option Value → Mm → Prop) (X : Nat → Mm → Prop) (L : List Slot) (st : List Value) (M : Mm) (nc ns : Nat) : Run sa E MC MS HX Q X kL_isForced 14 L st M nc ns = bk sa E MC MS HX (Run sa E MC MS HX Q X kL_isForced) Q X kL_isForced_14 L st M nc ns := Run_eq sa E MC MS HX Q X _ _ _ _ _ _ _
theorem rL_isForced_15 (sa : Nat → Nat) (E : Nat → Sem) (MC MS : Nat) (HX : Nat → Nat → Option Nat) (Q : Option Value → Mm → Prop) (X : Nat → Mm → Prop) (L : List Slot) (st : List Value) (M : Mm) (nc ns : Nat) : Run sa E MC MS HX Q X kL_isForced 15 L st M nc ns = bk sa E MC MS HX (Run sa E MC MS HX Q X kL_isForced) Q X kL_isForced_15 L st M nc ns := Run_eq sa E MC MS HX Q X _ _ _ _ _ _ _
theorem rL_isForced_19 (sa : Nat → Nat) (E : Nat → Sem) (MC MS : Nat) (HX : Nat → Nat → Option Nat) (Q : Option Value → Mm → Prop) (X : Nat → Mm → Prop) (L : List Slot) (st : List Value) (M : Mm) (nc ns : Nat) : Run sa E MC MS HX Q X kL_isForced 19 L st M nc ns = bk sa E MC MS HX (Run sa E MC MS HX Q X kL_isForced) Q X kL_isForced_19 L st M nc ns := Run_eq sa E MC MS HX Q X _ _ _ _ _ _ _
theorem rL_isForced_22 (sa : Nat → Nat) (E : Nat → Sem) (MC MS : Nat) (HX : Nat → Nat → Option Nat) (Q : Option Value → Mm → Prop) (X : Nat → Mm → Prop) (L : List Slot) (st : List Value) (M : Mm) (nc ns : Nat) : Run sa E MC MS HX Q X kL_isForced 22 L st M nc ns = bk sa E MC MS HX (Run sa E MC MS HX Q X kL_isForced) Q X kL_isForced_22 L st M nc ns := Run_eq sa E MC MS HX Q X _ _ _ _ _ _ _
def kL_isOpen_0 : List Item := [(0, .aload_n 2, 1, 3, 2, 0, 0, 0, [], .null),
    (1, .iconst 0, 1, 0, 0, 0, 0, 0, [], .int 0),
    (2, .aload_n 0, 1, 3, 0, 0, 0, 0, [], .null),
    (3, .iload_n 1, 1, 1, 1, 0, 0, 0, [], .null),
    (4, .invokevirtual 33, 3, 48, 94, 2, 1, 6, [10], .null),
    (7, .ifCond .eq 7, 3, 20, 14, 0, 0, 0, [], .null),
    (10, .lconst 1, 1, 0, 0, 0, 0, 0, [], .long 1),
    (11, .goto 4, 3, 22, 15, 0, 0, 0, [], .null)]
def kL_isOpen_14 : List Item := [(14, .lconst 0, 1, 0, 0, 0, 0, 0, [], .long 0),
    (15, .lastore, 1, 36, 0, 0, 0, 0, [], .null),
    (16, .goto 6, 3, 22, 22, 0, 0, 0, [], .null)]
def kL_isOpen_15 : List Item := [(15, .lastore, 1, 36, 0, 0, 0, 0, [], .null),
    (16, .goto 6, 3, 22, 22, 0, 0, 0, [], .null)]
def kL_isOpen_19 : List Item := [(19, .astore_n 3, 1, 5, 3, 0, 0, 0, [], .null),
    (20, .iconst 1, 1, 0, 0, 0, 0, 0, [], .int 1),
    (21, .ireturn, 1, 56, 0, 0, 0, 0, [], .null)]
def kL_isOpen_22 : List Item := [(22, .iconst 0, 1, 0, 0, 0, 0, 0, [], .int 0),
    (23, .ireturn, 1, 56, 0, 0, 0, 0, [], .null)]
def kL_isOpen : Code9 := [(0, kL_isOpen_0), (14, kL_isOpen_14), (15, kL_isOpen_15), (19, kL_isOpen_19), (22, kL_isOpen_22)]
theorem rL_isOpen_0 (sa : Nat → Nat) (E : Nat → Sem) (MC MS : Nat) (HX : Nat → Nat → Option Nat) (Q : Option Value → Mm → Prop) (X : Nat → Mm → Prop) (L : List Slot) (st : List Value) (M : Mm) (nc ns : Nat) : Run sa E MC MS HX Q X kL_isOpen 0 L st M nc ns = bk sa E MC MS HX (Run sa E MC MS HX Q X kL_isOpen) Q X kL_isOpen_0 L st M nc ns := Run_eq sa E MC MS HX Q X _ _ _ _ _ _ _
theorem rL_isOpen_14 (sa : Nat → Nat) (E : Nat → Sem) (MC MS : Nat) (HX : Nat → Nat → Option Nat) (Q : Option Value → Mm → Prop) (X : Nat → Mm → Prop) (L : List Slot) (st : List Value) (M : Mm) (nc ns : Nat) : Run sa E MC MS HX Q X kL_isOpen 14 L st M nc ns = bk sa E MC MS HX (Run sa E MC MS HX Q X kL_isOpen) Q X kL_isOpen_14 L st M nc ns := Run_eq sa E MC MS HX Q X _ _ _ _ _ _ _
theorem rL_isOpen_15 (sa : Nat → Nat) (E : Nat → Sem) (MC MS : Nat) (HX : Nat → Nat → Option Nat) (Q : Option Value → Mm → Prop) (X : Nat → Mm → Prop) (L : List Slot) (st : List Value) (M : Mm) (nc ns : Nat) : Run sa E MC MS HX Q X kL_isOpen 15 L st M nc ns = bk sa E MC MS HX (Run sa E MC MS HX Q X kL_isOpen) Q X kL_isOpen_15 L st M nc ns := Run_eq sa E MC MS HX Q X _ _ _ _ _ _ _
theorem rL_isOpen_19 (sa : Nat → Nat) (E : Nat → Sem) (MC MS : Nat) (HX : Nat → Nat → Option Nat) (Q : Option Value → Mm → Prop) (X : Nat → Mm → Prop) (L : List Slot) (st : List Value) (M : Mm) (nc ns : Nat) : Run sa E MC MS HX Q X kL_isOpen 19 L st M nc ns = bk sa E MC MS HX (Run sa E MC MS HX Q X kL_isOpen) Q X kL_isOpen_19 L st M nc ns := Run_eq sa E MC MS HX Q X _ _ _ _ _ _ _
theorem rL_isOpen_22 (sa : Nat → Nat) (E : Nat → Sem) (MC MS : Nat) (HX : Nat → Nat → Option Nat) (Q : Option Value → Mm → Prop) (X : Nat → Mm → Prop) (L : List Slot) (st : List Value) (M : Mm) (nc ns : Nat) : Run sa E MC MS HX Q X kL_isOpen 22 L st M nc ns = bk sa E MC MS HX (Run sa E MC MS HX Q X kL_isOpen) Q X kL_isOpen_22 L st M nc ns := Run_eq sa E MC MS HX Q X _ _ _ _ _ _ _
def kL_law_0 : List Item := [(0, .new 8, 3, 43, 10, 5, 0, 0, [], .null),
    (3, .dup, 1, 16, 0, 0, 0, 0, [], .null),
    (4, .invokespecial 80, 3, 48, 92, 1, 357, 15773, [101], .null),
    (7, .astore_n 1, 1, 5, 1, 0, 0, 0, [], .null),
    (8, .new 81, 3, 43, 11, 19, 0, 0, [], .null),
    (11, .dup, 1, 16, 0, 0, 0, 0, [], .null),
    (12, .invokespecial 83, 3, 48, 142, 1, 16, 22059, [101], .null),
    (15, .astore_n 2, 1, 5, 2, 0, 0, 0, [], .null),
    (16, .iconst 1, 1, 0, 0, 0, 0, 0, [], .int 1),
    (17, .newarray .long, 2, 44, 3, 0, 0, 0, [], .null),
    (19, .astore_n 3, 1, 5, 3, 0, 0, 0, [], .null),
    (20, .iconst 0, 1, 0, 0, 0, 0, 0, [], .int 0),
    (21, .istore 4, 2, 4, 4, 0, 0, 0, [], .null),
    (23, .nop, 0, 60, 23, 0, 0, 0, [], .null)]
def kL_law_23 : List Item := [(23, .iload 4, 2, 1, 4, 0, 0, 0, [], .null),
    (25, .aload_n 0, 1, 3, 0, 0, 0, 0, [], .null),
    (26, .arraylength, 1, 42, 0, 0, 0, 0, [], .null),
    (27, .bipush 6, 2, 0, 0, 0, 0, 0, [], .int 6),
    (29, .isub, 1, 8, 0, 1, 0, 0, [], .null),
    (30, .if_icmp .gt 1543, 3, 21, 1573, 4, 0, 0, [], .null),
    (33, .aload_n 0, 1, 3, 0, 0, 0, 0, [], .null),
    (34, .iload 4, 2, 1, 4, 0, 0, 0, [], .null),
    (36, .iaload, 1, 34, 0, 0, 0, 0, [], .null),
    (37, .bipush 31, 2, 0, 0, 0, 0, 0, [], .int 31),
    (39, .iand, 1, 8, 0, 3, 0, 0, [], .null),
    (40, .tableswitch 1527 0 28 #[132, 205, 261, 274, 287, 300, 313, 326, 382, 438, 451, 507, 575, 631, 694, 757, 813, 869, 925, 981, 1036, 1104, 1172, 1240, 1320, 1376, 1432, 1500, 1513], 132, 23, 1567, 0, 0, 0, [172, 245, 301, 314, 327, 340, 353, 366, 422, 478, 491, 547, 615, 671, 734, 797, 853, 909, 965, 1021, 1076, 1144, 1212, 1280, 1360, 1416, 1472, 1540, 1553], .int (0))]
def kL_law_172 : List Item := [(172, .aload_n 1, 1, 3, 1, 0, 0, 0, [], .null),
    (173, .aload_n 0, 1, 3, 0, 0, 0, 0, [], .null),
    (174, .iload 4, 2, 1, 4, 0, 0, 0, [], .null),
    (176, .iconst 1, 1, 0, 0, 0, 0, 0, [], .int 1),
    (177, .iadd, 1, 8, 0, 0, 0, 0, [], .null),
    (178, .iaload, 1, 34, 0, 0, 0, 0, [], .null),
    (179, .aload_n 0, 1, 3, 0, 0, 0, 0, [], .null),
    (180, .iload 4, 2, 1, 4, 0, 0, 0, [], .null),
    (182, .iconst 2, 1, 0, 0, 0, 0, 0, [], .int 2),
    (183, .iadd, 1, 8, 0, 0, 0, 0, [], .null),
    (184, .iaload, 1, 34, 0, 0, 0, 0, [], .null),
    (185, .aload_n 0, 1, 3, 0, 0, 0, 0, [], .null),
    (186, .iload 4, 2, 1, 4, 0, 0, 0, [], .null),
    (188, .iconst 3, 1, 0, 0, 0, 0, 0, [], .int 3),
    (189, .iadd, 1, 8, 0, 0, 0, 0, [], .null),
    (190, .iaload, 1, 34, 0, 0, 0, 0, [], .null),
    (191, .aload_n 0, 1, 3, 0, 0, 0, 0, [], .null),
    (192, .iload 4, 2, 1, 4, 0, 0, 0, [], .null),
    (194, .iconst 4, 1, 0, 0, 0, 0, 0, [], .int 4),
    (195, .iadd, 1, 8, 0, 0, 0, 0, [], .null),
    (196, .iaload, 1, 34, 0, 0, 0, 0, [], .null),
    (197, .aload_n 0, 1, 3, 0, 0, 0, 0, [], .null),
    (198, .iload 4, 2, 1, 4, 0, 0, 0, [], .null),
    (200, .iconst 5, 1, 0, 0, 0, 0, 0, [], .int 5),
    (201, .iadd, 1, 8, 0, 0, 0, 0, [], .null),
    (202, .iaload, 1, 34, 0, 0, 0, 0, [], .null),
    (203, .invokevirtual 84, 3, 48, 75, 6, 0, 0, [10], .null),
    (206, .aload_n 2, 1, 3, 2, 0, 0, 0, [], .null),
    (207, .aload_n 0, 1, 3, 0, 0, 0, 0, [], .null),
    (208, .iload 4, 2, 1, 4, 0, 0, 0, [], .null),
    (210, .iconst 1, 1, 0, 0, 0, 0, 0, [], .int 1),
    (211, .iadd, 1, 8, 0, 0, 0, 0, [], .null),
    (212, .iaload, 1, 34, 0, 0, 0, 0, [], .null),
    (213, .aload_n 0, 1, 3, 0, 0, 0, 0, [], .null),
    (214, .iload 4, 2, 1, 4, 0, 0, 0, [], .null),
    (216, .iconst 2, 1, 0, 0, 0, 0, 0, [], .int 2),
    (217, .iadd, 1, 8, 0, 0, 0, 0, [], .null),
    (218, .iaload, 1, 34, 0, 0, 0, 0, [], .null),
    (219, .aload_n 0, 1, 3, 0, 0, 0, 0, [], .null),
    (220, .iload 4, 2, 1, 4, 0, 0, 0, [], .null),
    (222, .iconst 3, 1, 0, 0, 0, 0, 0, [], .int 3),
    (223, .iadd, 1, 8, 0, 0, 0, 0, [], .null),
    (224, .iaload, 1, 34, 0, 0, 0, 0, [], .null),
    (225, .aload_n 0, 1, 3, 0, 0, 0, 0, [], .null),
    (226, .iload 4, 2, 1, 4, 0, 0, 0, [], .null),
    (228, .iconst 4, 1, 0, 0, 0, 0, 0, [], .int 4),
    (229, .iadd, 1, 8, 0, 0, 0, 0, [], .null),
    (230, .iaload, 1, 34, 0, 0, 0, 0, [], .null),
    (231, .aload_n 0, 1, 3, 0, 0, 0, 0, [], .null),
    (232, .iload 4, 2, 1, 4, 0, 0, 0, [], .null),
    (234, .iconst 5, 1, 0, 0, 0, 0, 0, [], .int 5),
    (235, .iadd, 1, 8, 0, 0, 0, 0, [], .null),
    (236, .iaload, 1, 34, 0, 0, 0, 0, [], .null),
    (237, .invokevirtual 88, 3, 48, 109, 6, 0, 0, [11], .null),
    (240, .if_icmp .eq 1327, 3, 21, 1567, 0, 0, 0, [], .null),
    (243, .iconst 0, 1, 0, 0, 0, 0, 0, [], .int 0),
    (244, .ireturn, 1, 56, 0, 0, 0, 0, [], .null)]
def kL_law_245 : List Item := [(245, .aload_n 1, 1, 3, 1, 0, 0, 0, [], .null),
    (246, .aload_n 0, 1, 3, 0, 0, 0, 0, [], .null),
    (247, .iload 4, 2, 1, 4, 0, 0, 0, [], .null),
    (249, .iconst 1, 1, 0, 0, 0, 0, 0, [], .int 1),
    (250, .iadd, 1, 8, 0, 0, 0, 0, [], .null),
    (251, .iaload, 1, 34, 0, 0, 0, 0, [], .null),
    (252, .aload_n 3, 1, 3, 3, 0, 0, 0, [], .null),
    (253, .invokestatic 89, 3, 48, 195, 3, 1, 6, [], .null),
    (256, .istore 5, 2, 4, 5, 0, 0, 0, [], .null),
    (258, .aload_n 2, 1, 3, 2, 0, 0, 0, [], .null),
    (259, .aload_n 0, 1, 3, 0, 0, 0, 0, [], .null),
    (260, .iload 4, 2, 1, 4, 0, 0, 0, [], .null),
    (262, .iconst 1, 1, 0, 0, 0, 0, 0, [], .int 1),
    (263, .iadd, 1, 8, 0, 0, 0, 0, [], .null),
    (264, .iaload, 1, 34, 0, 0, 0, 0, [], .null),
    (265, .invokevirtual 94, 3, 48, 149, 2, 0, 0, [11], .null),
    (268, .istore 6, 2, 4, 6, 0, 0, 0, [], .null),
    (270, .aload_n 2, 1, 3, 2, 0, 0, 0, [], .null),
    (271, .invokevirtual 95, 3, 48, 178, 1, 0, 0, [11], .null),
    (274, .iload 5, 2, 1, 5, 0, 0, 0, [], .null),
    (276, .if_icmp .eq 5, 3, 21, 281, 0, 0, 0, [], .null),
    (279, .iconst 0, 1, 0, 0, 0, 0, 0, [], .int 0),
    (280, .ireturn, 1, 56, 0, 0, 0, 0, [], .null)]
def kL_law_281 : List Item := [(281, .iload 5, 2, 1, 5, 0, 0, 0, [], .null),
    (283, .ifCond .ne 15, 3, 20, 298, 1, 0, 0, [], .null),
    (286, .aload_n 3, 1, 3, 3, 0, 0, 0, [], .null),
    (287, .iconst 0, 1, 0, 0, 0, 0, 0, [], .int 0),
    (288, .laload, 1, 32, 0, 0, 0, 0, [], .null),
    (289, .iload 6, 2, 1, 6, 0, 0, 0, [], .null),
    (291, .i2l, 1, 12, 0, 0, 0, 0, [], .null),
    (292, .lcmp, 1, 15, 0, 0, 0, 0, [], .null),
    (293, .ifCond .eq 5, 3, 20, 298, 0, 0, 0, [], .null),
    (296, .iconst 0, 1, 0, 0, 0, 0, 0, [], .int 0),
    (297, .ireturn, 1, 56, 0, 0, 0, 0, [], .null)]
def kL_law_298 : List Item := [(298, .goto 1269, 3, 22, 1567, 0, 0, 0, [], .null)]
def kL_law_301 : List Item := [(301, .aload_n 1, 1, 3, 1, 0, 0, 0, [], .null),
    (302, .invokevirtual 99, 3, 48, 82, 1, 0, 0, [10], .null),
    (305, .aload_n 2, 1, 3, 2, 0, 0, 0, [], .null),
    (306, .invokevirtual 102, 3, 48, 125, 1, 0, 0, [11], .null),
    (309, .if_icmp .eq 1258, 3, 21, 1567, 0, 0, 0, [], .null),
    (312, .iconst 0, 1, 0, 0, 0, 0, 0, [], .int 0),
    (313, .ireturn, 1, 56, 0, 0, 0, 0, [], .null)]
def kL_law_314 : List Item := [(314, .aload_n 1, 1, 3, 1, 0, 0, 0, [], .null),
    (315, .invokevirtual 103, 3, 48, 77, 1, 0, 0, [10], .null),
    (318, .aload_n 2, 1, 3, 2, 0, 0, 0, [], .null),
    (319, .invokevirtual 106, 3, 48, 114, 1, 0, 0, [11], .null),
    (322, .if_icmp .eq 1245, 3, 21, 1567, 0, 0, 0, [], .null),
    (325, .iconst 0, 1, 0, 0, 0, 0, 0, [], .int 0),
    (326, .ireturn, 1, 56, 0, 0, 0, 0, [], .null)]
def kL_law_327 : List Item := [(327, .aload_n 1, 1, 3, 1, 0, 0, 0, [], .null),
    (328, .invokevirtual 107, 3, 48, 85, 1, 0, 0, [10], .null),
    (331, .aload_n 2, 1, 3, 2, 0, 0, 0, [], .null),
    (332, .invokevirtual 110, 3, 48, 132, 1, 0, 0, [11], .null),
    (335, .if_icmp .eq 1232, 3, 21, 1567, 0, 0, 0, [], .null),
    (338, .iconst 0, 1, 0, 0, 0, 0, 0, [], .int 0),
    (339, .ireturn, 1, 56, 0, 0, 0, 0, [], .null)]
def kL_law_340 : List Item := [(340, .aload_n 1, 1, 3, 1, 0, 0, 0, [], .null),
    (341, .invokevirtual 111, 3, 48, 79, 1, 0, 0, [10], .null),
    (344, .aload_n 2, 1, 3, 2, 0, 0, 0, [], .null),
    (345, .invokevirtual 114, 3, 48, 116, 1, 0, 0, [11], .null),
    (348, .if_icmp .eq 1219, 3, 21, 1567, 0, 0, 0, [], .null),
    (351, .iconst 0, 1, 0, 0, 0, 0, 0, [], .int 0),
    (352, .ireturn, 1, 56, 0, 0, 0, 0, [], .null)]
def kL_law_353 : List Item := [(353, .aload_n 1, 1, 3, 1, 0, 0, 0, [], .null),
    (354, .invokevirtual 115, 3, 48, 81, 1, 0, 0, [10], .null),
    (357, .aload_n 2, 1, 3, 2, 0, 0, 0, [], .null),
    (358, .invokevirtual 118, 3, 48, 119, 1, 0, 0, [11], .null),
    (361, .if_icmp .eq 1206, 3, 21, 1567, 0, 0, 0, [], .null),
    (364, .iconst 0, 1, 0, 0, 0, 0, 0, [], .int 0),
    (365, .ireturn, 1, 56, 0, 0, 0, 0, [], .null)]
def kL_law_366 : List Item := [(366, .aload_n 1, 1, 3, 1, 0, 0, 0, [], .null),
    (367, .aload_n 0, 1, 3, 0, 0, 0, 0, [], .null),
    (368, .iload 4, 2, 1, 4, 0, 0, 0, [], .null),
    (370, .iconst 1, 1, 0, 0, 0, 0, 0, [], .int 1),
    (371, .iadd, 1, 8, 0, 0, 0, 0, [], .null),
    (372, .iaload, 1, 34, 0, 0, 0, 0, [], .null),
    (373, .aload_n 3, 1, 3, 3, 0, 0, 0, [], .null),
    (374, .invokestatic 119, 3, 48, 203, 3, 1, 6, [], .null),
    (377, .istore 5, 2, 4, 5, 0, 0, 0, [], .null),
    (379, .aload_n 2, 1, 3, 2, 0, 0, 0, [], .null),
    (380, .aload_n 0, 1, 3, 0, 0, 0, 0, [], .null),
    (381, .iload 4, 2, 1, 4, 0, 0, 0, [], .null),
    (383, .iconst 1, 1, 0, 0, 0, 0, 0, [], .int 1),
    (384, .iadd, 1, 8, 0, 0, 0, 0, [], .null),
    (385, .iaload, 1, 34, 0, 0, 0, 0, [], .null),
    (386, .invokevirtual 121, 3, 48, 181, 2, 0, 0, [11], .null),
    (389, .istore 6, 2, 4, 6, 0, 0, 0, [], .null),
    (391, .aload_n 2, 1, 3, 2, 0, 0, 0, [], .null),
    (392, .invokevirtual 95, 3, 48, 178, 1, 0, 0, [11], .null),
    (395, .iload 5, 2, 1, 5, 0, 0, 0, [], .null),
    (397, .if_icmp .eq 5, 3, 21, 402, 0, 0, 0, [], .null),
    (400, .iconst 0, 1, 0, 0, 0, 0, 0, [], .int 0),
    (401, .ireturn, 1, 56, 0, 0, 0, 0, [], .null)]
def kL_law_402 : List Item := [(402, .iload 5, 2, 1, 5, 0, 0, 0, [], .null),
    (404, .ifCond .ne 15, 3, 20, 419, 1, 0, 0, [], .null),
    (407, .aload_n 3, 1, 3, 3, 0, 0, 0, [], .null),
    (408, .iconst 0, 1, 0, 0, 0, 0, 0, [], .int 0),
    (409, .laload, 1, 32, 0, 0, 0, 0, [], .null),
    (410, .iload 6, 2, 1, 6, 0, 0, 0, [], .null),
    (412, .i2l, 1, 12, 0, 0, 0, 0, [], .null),
    (413, .lcmp, 1, 15, 0, 0, 0, 0, [], .null),
    (414, .ifCond .eq 5, 3, 20, 419, 0, 0, 0, [], .null),
    (417, .iconst 0, 1, 0, 0, 0, 0, 0, [], .int 0),
    (418, .ireturn, 1, 56, 0, 0, 0, 0, [], .null)]
def kL_law_419 : List Item := [(419, .goto 1148, 3, 22, 1567, 0, 0, 0, [], .null)]
def kL_law_422 : List Item := [(422, .aload_n 1, 1, 3, 1, 0, 0, 0, [], .null),
    (423, .aload_n 0, 1, 3, 0, 0, 0, 0, [], .null),
    (424, .iload 4, 2, 1, 4, 0, 0, 0, [], .null),
    (426, .iconst 1, 1, 0, 0, 0, 0, 0, [], .int 1),
    (427, .iadd, 1, 8, 0, 0, 0, 0, [], .null),
    (428, .iaload, 1, 34, 0, 0, 0, 0, [], .null),
    (429, .aload_n 3, 1, 3, 3, 0, 0, 0, [], .null),
    (430, .invokestatic 122, 3, 48, 191, 3, 1, 6, [], .null),
    (433, .istore 5, 2, 4, 5, 0, 0, 0, [], .null),
    (435, .aload_n 2, 1, 3, 2, 0, 0, 0, [], .null),
    (436, .aload_n 0, 1, 3, 0, 0, 0, 0, [], .null),
    (437, .iload 4, 2, 1, 4, 0, 0, 0, [], .null),
    (439, .iconst 1, 1, 0, 0, 0, 0, 0, [], .int 1),
    (440, .iadd, 1, 8, 0, 0, 0, 0, [], .null),
    (441, .iaload, 1, 34, 0, 0, 0, 0, [], .null),
    (442, .invokevirtual 124, 3, 48, 140, 2, 0, 0, [11], .null),
    (445, .istore 6, 2, 4, 6, 0, 0, 0, [], .null),
    (447, .aload_n 2, 1, 3, 2, 0, 0, 0, [], .null),
    (448, .invokevirtual 95, 3, 48, 178, 1, 0, 0, [11], .null),
    (451, .iload 5, 2, 1, 5, 0, 0, 0, [], .null),
    (453, .if_icmp .eq 5, 3, 21, 458, 0, 0, 0, [], .null),
    (456, .iconst 0, 1, 0, 0, 0, 0, 0, [], .int 0),
    (457, .ireturn, 1, 56, 0, 0, 0, 0, [], .null)]
def kL_law_458 : List Item := [(458, .iload 5, 2, 1, 5, 0, 0, 0, [], .null),
    (460, .ifCond .ne 15, 3, 20, 475, 1, 0, 0, [], .null),
    (463, .aload_n 3, 1, 3, 3, 0, 0, 0, [], .null),
    (464, .iconst 0, 1, 0, 0, 0, 0, 0, [], .int 0),
    (465, .laload, 1, 32, 0, 0, 0, 0, [], .null),
    (466, .iload 6, 2, 1, 6, 0, 0, 0, [], .null),
    (468, .i2l, 1, 12, 0, 0, 0, 0, [], .null),
    (469, .lcmp, 1, 15, 0, 0, 0, 0, [], .null),
    (470, .ifCond .eq 5, 3, 20, 475, 0, 0, 0, [], .null),
    (473, .iconst 0, 1, 0, 0, 0, 0, 0, [], .int 0),
    (474, .ireturn, 1, 56, 0, 0, 0, 0, [], .null)]
def kL_law_475 : List Item := [(475, .goto 1092, 3, 22, 1567, 0, 0, 0, [], .null)]
def kL_law_478 : List Item := [(478, .aload_n 1, 1, 3, 1, 0, 0, 0, [], .null),
    (479, .invokevirtual 125, 3, 48, 89, 1, 0, 0, [10], .null),
    (482, .aload_n 2, 1, 3, 2, 0, 0, 0, [], .null),
    (483, .invokevirtual 128, 3, 48, 137, 1, 0, 0, [11], .null),
    (486, .if_icmp .eq 1081, 3, 21, 1567, 0, 0, 0, [], .null),
    (489, .iconst 0, 1, 0, 0, 0, 0, 0, [], .int 0),
    (490, .ireturn, 1, 56, 0, 0, 0, 0, [], .null)]
def kL_law_491 : List Item := [(491, .aload_n 1, 1, 3, 1, 0, 0, 0, [], .null),
    (492, .aload_n 0, 1, 3, 0, 0, 0, 0, [], .null),
    (493, .iload 4, 2, 1, 4, 0, 0, 0, [], .null),
    (495, .iconst 1, 1, 0, 0, 0, 0, 0, [], .int 1),
    (496, .iadd, 1, 8, 0, 0, 0, 0, [], .null),
    (497, .iaload, 1, 34, 0, 0, 0, 0, [], .null),
    (498, .aload_n 3, 1, 3, 3, 0, 0, 0, [], .null),
    (499, .invokestatic 129, 3, 48, 196, 3, 1, 6, [], .null),
    (502, .istore 5, 2, 4, 5, 0, 0, 0, [], .null),
    (504, .aload_n 2, 1, 3, 2, 0, 0, 0, [], .null),
    (505, .aload_n 0, 1, 3, 0, 0, 0, 0, [], .null),
    (506, .iload 4, 2, 1, 4, 0, 0, 0, [], .null),
    (508, .iconst 1, 1, 0, 0, 0, 0, 0, [], .int 1),
    (509, .iadd, 1, 8, 0, 0, 0, 0, [], .null),
    (510, .iaload, 1, 34, 0, 0, 0, 0, [], .null),
    (511, .invokevirtual 131, 3, 48, 158, 2, 0, 0, [11], .null),
    (514, .istore 6, 2, 4, 6, 0, 0, 0, [], .null),
    (516, .aload_n 2, 1, 3, 2, 0, 0, 0, [], .null),
    (517, .invokevirtual 95, 3, 48, 178, 1, 0, 0, [11], .null),
    (520, .iload 5, 2, 1, 5, 0, 0, 0, [], .null),
    (522, .if_icmp .eq 5, 3, 21, 527, 0, 0, 0, [], .null),
    (525, .iconst 0, 1, 0, 0, 0, 0, 0, [], .int 0),
    (526, .ireturn, 1, 56, 0, 0, 0, 0, [], .null)]
def kL_law_527 : List Item := [(527, .iload 5, 2, 1, 5, 0, 0, 0, [], .null),
    (529, .ifCond .ne 15, 3, 20, 544, 1, 0, 0, [], .null),
    (532, .aload_n 3, 1, 3, 3, 0, 0, 0, [], .null),
    (533, .iconst 0, 1, 0, 0, 0, 0, 0, [], .int 0),
    (534, .laload, 1, 32, 0, 0, 0, 0, [], .null),
    (535, .iload 6, 2, 1, 6, 0, 0, 0, [], .null),
    (537, .i2l, 1, 12, 0, 0, 0, 0, [], .null),
    (538, .lcmp, 1, 15, 0, 0, 0, 0, [], .null),
    (539, .ifCond .eq 5, 3, 20, 544, 0, 0, 0, [], .null),
    (542, .iconst 0, 1, 0, 0, 0, 0, 0, [], .int 0),
    (543, .ireturn, 1, 56, 0, 0, 0, 0, [], .null)]
def kL_law_544 : List Item := [(544, .goto 1023, 3, 22, 1567, 0, 0, 0, [], .null)]
def kL_law_547 : List Item := [(547, .aload_n 1, 1, 3, 1, 0, 0, 0, [], .null),
    (548, .aload_n 0, 1, 3, 0, 0, 0, 0, [], .null),
    (549, .iload 4, 2, 1, 4, 0, 0, 0, [], .null),
    (551, .iconst 1, 1, 0, 0, 0, 0, 0, [], .int 1),
    (552, .iadd, 1, 8, 0, 0, 0, 0, [], .null),
    (553, .iaload, 1, 34, 0, 0, 0, 0, [], .null),
    (554, .aload_n 0, 1, 3, 0, 0, 0, 0, [], .null),
    (555, .iload 4, 2, 1, 4, 0, 0, 0, [], .null),
    (557, .iconst 2, 1, 0, 0, 0, 0, 0, [], .int 2),
    (558, .iadd, 1, 8, 0, 0, 0, 0, [], .null),
    (559, .iaload, 1, 34, 0, 0, 0, 0, [], .null),
    (560, .aload_n 3, 1, 3, 3, 0, 0, 0, [], .null),
    (561, .invokestatic 132, 3, 48, 205, 4, 2, 12, [], .null),
    (564, .istore 5, 2, 4, 5, 0, 0, 0, [], .null),
    (566, .aload_n 2, 1, 3, 2, 0, 0, 0, [], .null),
    (567, .aload_n 0, 1, 3, 0, 0, 0, 0, [], .null),
    (568, .iload 4, 2, 1, 4, 0, 0, 0, [], .null),
    (570, .iconst 1, 1, 0, 0, 0, 0, 0, [], .int 1),
    (571, .iadd, 1, 8, 0, 0, 0, 0, [], .null),
    (572, .iaload, 1, 34, 0, 0, 0, 0, [], .null),
    (573, .aload_n 0, 1, 3, 0, 0, 0, 0, [], .null),
    (574, .iload 4, 2, 1, 4, 0, 0, 0, [], .null),
    (576, .iconst 2, 1, 0, 0, 0, 0, 0, [], .int 2),
    (577, .iadd, 1, 8, 0, 0, 0, 0, [], .null),
    (578, .iaload, 1, 34, 0, 0, 0, 0, [], .null),
    (579, .invokevirtual 135, 3, 48, 184, 3, 0, 0, [11], .null),
    (582, .istore 6, 2, 4, 6, 0, 0, 0, [], .null),
    (584, .aload_n 2, 1, 3, 2, 0, 0, 0, [], .null),
    (585, .invokevirtual 95, 3, 48, 178, 1, 0, 0, [11], .null),
    (588, .iload 5, 2, 1, 5, 0, 0, 0, [], .null),
    (590, .if_icmp .eq 5, 3, 21, 595, 0, 0, 0, [], .null),
    (593, .iconst 0, 1, 0, 0, 0, 0, 0, [], .int 0),
    (594, .ireturn, 1, 56, 0, 0, 0, 0, [], .null)]
def kL_law_595 : List Item := [(595, .iload 5, 2, 1, 5, 0, 0, 0, [], .null),
    (597, .ifCond .ne 15, 3, 20, 612, 1, 0, 0, [], .null),
    (600, .aload_n 3, 1, 3, 3, 0, 0, 0, [], .null),
    (601, .iconst 0, 1, 0, 0, 0, 0, 0, [], .int 0),
    (602, .laload, 1, 32, 0, 0, 0, 0, [], .null),
    (603, .iload 6, 2, 1, 6, 0, 0, 0, [], .null),
    (605, .i2l, 1, 12, 0, 0, 0, 0, [], .null),
    (606, .lcmp, 1, 15, 0, 0, 0, 0, [], .null),
    (607, .ifCond .eq 5, 3, 20, 612, 0, 0, 0, [], .null),
    (610, .iconst 0, 1, 0, 0, 0, 0, 0, [], .int 0),
    (611, .ireturn, 1, 56, 0, 0, 0, 0, [], .null)]
def kL_law_612 : List Item := [(612, .goto 955, 3, 22, 1567, 0, 0, 0, [], .null)]
def kL_law_615 : List Item := [(615, .aload_n 1, 1, 3, 1, 0, 0, 0, [], .null),
    (616, .aload_n 0, 1, 3, 0, 0, 0, 0, [], .null),
    (617, .iload 4, 2, 1, 4, 0, 0, 0, [], .null),
    (619, .iconst 1, 1, 0, 0, 0, 0, 0, [], .int 1),
    (620, .iadd, 1, 8, 0, 0, 0, 0, [], .null),
    (621, .iaload, 1, 34, 0, 0, 0, 0, [], .null),
    (622, .aload_n 3, 1, 3, 3, 0, 0, 0, [], .null),
    (623, .invokestatic 136, 3, 48, 185, 3, 1, 6, [], .null),
    (626, .istore 5, 2, 4, 5, 0, 0, 0, [], .null),
    (628, .aload_n 2, 1, 3, 2, 0, 0, 0, [], .null),
    (629, .aload_n 0, 1, 3, 0, 0, 0, 0, [], .null),
    (630, .iload 4, 2, 1, 4, 0, 0, 0, [], .null),
    (632, .iconst 1, 1, 0, 0, 0, 0, 0, [], .int 1),
    (633, .iadd, 1, 8, 0, 0, 0, 0, [], .null),
    (634, .iaload, 1, 34, 0, 0, 0, 0, [], .null),
    (635, .invokevirtual 138, 3, 48, 110, 2, 0, 0, [11], .null),
    (638, .istore 6, 2, 4, 6, 0, 0, 0, [], .null),
    (640, .aload_n 2, 1, 3, 2, 0, 0, 0, [], .null),
    (641, .invokevirtual 95, 3, 48, 178, 1, 0, 0, [11], .null),
    (644, .iload 5, 2, 1, 5, 0, 0, 0, [], .null),
    (646, .if_icmp .eq 5, 3, 21, 651, 0, 0, 0, [], .null),
    (649, .iconst 0, 1, 0, 0, 0, 0, 0, [], .int 0),
    (650, .ireturn, 1, 56, 0, 0, 0, 0, [], .null)]
def kL_law_651 : List Item := [(651, .iload 5, 2, 1, 5, 0, 0, 0, [], .null),
    (653, .ifCond .ne 15, 3, 20, 668, 1, 0, 0, [], .null),
    (656, .aload_n 3, 1, 3, 3, 0, 0, 0, [], .null),
    (657, .iconst 0, 1, 0, 0, 0, 0, 0, [], .int 0),
    (658, .laload, 1, 32, 0, 0, 0, 0, [], .null),
    (659, .iload 6, 2, 1, 6, 0, 0, 0, [], .null),
    (661, .i2l, 1, 12, 0, 0, 0, 0, [], .null),
    (662, .lcmp, 1, 15, 0, 0, 0, 0, [], .null),
    (663, .ifCond .eq 5, 3, 20, 668, 0, 0, 0, [], .null),
    (666, .iconst 0, 1, 0, 0, 0, 0, 0, [], .int 0),
    (667, .ireturn, 1, 56, 0, 0, 0, 0, [], .null)]
def kL_law_668 : List Item := [(668, .goto 899, 3, 22, 1567, 0, 0, 0, [], .null)]
def kL_law_671 : List Item := [(671, .aload_n 1, 1, 3, 1, 0, 0, 0, [], .null),
    (672, .aload_n 0, 1, 3, 0, 0, 0, 0, [], .null),
    (673, .iload 4, 2, 1, 4, 0, 0, 0, [], .null),
    (675, .iconst 1, 1, 0, 0, 0, 0, 0, [], .int 1),
    (676, .iadd, 1, 8, 0, 0, 0, 0, [], .null),
    (677, .iaload, 1, 34, 0, 0, 0, 0, [], .null),
    (678, .aload_n 3, 1, 3, 3, 0, 0, 0, [], .null),
    (679, .invokestatic 139, 3, 48, 193, 3, 1, 6, [], .null),
    (682, .istore 5, 2, 4, 5, 0, 0, 0, [], .null),
    (684, .aload_n 2, 1, 3, 2, 0, 0, 0, [], .null),
    (685, .aload_n 0, 1, 3, 0, 0, 0, 0, [], .null),
    (686, .iload 4, 2, 1, 4, 0, 0, 0, [], .null),
    (688, .iconst 1, 1, 0, 0, 0, 0, 0, [], .int 1),
    (689, .iadd, 1, 8, 0, 0, 0, 0, [], .null),
    (690, .iaload, 1, 34, 0, 0, 0, 0, [], .null),
    (691, .invokevirtual 141, 3, 48, 147, 2, 0, 0, [11], .null),
    (694, .istore 6, 2, 4, 6, 0, 0, 0, [], .null),
    (696, .aload_n 2, 1, 3, 2, 0, 0, 0, [], .null),
    (697, .invokevirtual 95, 3, 48, 178, 1, 0, 0, [11], .null),
    (700, .iload 5, 2, 1, 5, 0, 0, 0, [], .null),
    (702, .if_icmp .eq 5, 3, 21, 707, 0, 0, 0, [], .null),
    (705, .iconst 0, 1, 0, 0, 0, 0, 0, [], .int 0),
    (706, .ireturn, 1, 56, 0, 0, 0, 0, [], .null)]
def kL_law_707 : List Item := [(707, .iload 5, 2, 1, 5, 0, 0, 0, [], .null),
    (709, .ifCond .ne 22, 3, 20, 731, 1, 0, 0, [], .null),
    (712, .aload_n 3, 1, 3, 3, 0, 0, 0, [], .null),
    (713, .iconst 0, 1, 0, 0, 0, 0, 0, [], .int 0),
    (714, .laload, 1, 32, 0, 0, 0, 0, [], .null),
    (715, .iload 6, 2, 1, 6, 0, 0, 0, [], .null),
    (717, .ifCond .eq 7, 3, 20, 724, 0, 0, 0, [], .null),
    (720, .lconst 1, 1, 0, 0, 0, 0, 0, [], .long 1),
    (721, .goto 4, 3, 22, 725, 0, 0, 0, [], .null)]
def kL_law_724 : List Item := [(724, .lconst 0, 1, 0, 0, 0, 0, 0, [], .long 0),
    (725, .lcmp, 1, 15, 0, 0, 0, 0, [], .null),
    (726, .ifCond .eq 5, 3, 20, 731, 0, 0, 0, [], .null),
    (729, .iconst 0, 1, 0, 0, 0, 0, 0, [], .int 0),
    (730, .ireturn, 1, 56, 0, 0, 0, 0, [], .null)]
def kL_law_725 : List Item := [(725, .lcmp, 1, 15, 0, 0, 0, 0, [], .null),
    (726, .ifCond .eq 5, 3, 20, 731, 0, 0, 0, [], .null),
    (729, .iconst 0, 1, 0, 0, 0, 0, 0, [], .int 0),
    (730, .ireturn, 1, 56, 0, 0, 0, 0, [], .null)]
def kL_law_731 : List Item := [(731, .goto 836, 3, 22, 1567, 0, 0, 0, [], .null)]
def kL_law_734 : List Item := [(734, .aload_n 1, 1, 3, 1, 0, 0, 0, [], .null),
    (735, .aload_n 0, 1, 3, 0, 0, 0, 0, [], .null),
    (736, .iload 4, 2, 1, 4, 0, 0, 0, [], .null),
    (738, .iconst 1, 1, 0, 0, 0, 0, 0, [], .int 1),
    (739, .iadd, 1, 8, 0, 0, 0, 0, [], .null),
    (740, .iaload, 1, 34, 0, 0, 0, 0, [], .null),
    (741, .aload_n 3, 1, 3, 3, 0, 0, 0, [], .null),
    (742, .invokestatic 142, 3, 48, 192, 3, 1, 6, [], .null),
    (745, .istore 5, 2, 4, 5, 0, 0, 0, [], .null),
    (747, .aload_n 2, 1, 3, 2, 0, 0, 0, [], .null),
    (748, .aload_n 0, 1, 3, 0, 0, 0, 0, [], .null),
    (749, .iload 4, 2, 1, 4, 0, 0, 0, [], .null),
    (751, .iconst 1, 1, 0, 0, 0, 0, 0, [], .int 1),
    (752, .iadd, 1, 8, 0, 0, 0, 0, [], .null),
    (753, .iaload, 1, 34, 0, 0, 0, 0, [], .null),
    (754, .invokevirtual 144, 3, 48, 145, 2, 0, 0, [11], .null),
    (757, .istore 6, 2, 4, 6, 0, 0, 0, [], .null),
    (759, .aload_n 2, 1, 3, 2, 0, 0, 0, [], .null),
    (760, .invokevirtual 95, 3, 48, 178, 1, 0, 0, [11], .null),
    (763, .iload 5, 2, 1, 5, 0, 0, 0, [], .null),
    (765, .if_icmp .eq 5, 3, 21, 770, 0, 0, 0, [], .null),
    (768, .iconst 0, 1, 0, 0, 0, 0, 0, [], .int 0),
    (769, .ireturn, 1, 56, 0, 0, 0, 0, [], .null)]
def kL_law_770 : List Item := [(770, .iload 5, 2, 1, 5, 0, 0, 0, [], .null),
    (772, .ifCond .ne 22, 3, 20, 794, 1, 0, 0, [], .null),
    (775, .aload_n 3, 1, 3, 3, 0, 0, 0, [], .null),
    (776, .iconst 0, 1, 0, 0, 0, 0, 0, [], .int 0),
    (777, .laload, 1, 32, 0, 0, 0, 0, [], .null),
    (778, .iload 6, 2, 1, 6, 0, 0, 0, [], .null),
    (780, .ifCond .eq 7, 3, 20, 787, 0, 0, 0, [], .null),
    (783, .lconst 1, 1, 0, 0, 0, 0, 0, [], .long 1),
    (784, .goto 4, 3, 22, 788, 0, 0, 0, [], .null)]
def kL_law_787 : List Item := [(787, .lconst 0, 1, 0, 0, 0, 0, 0, [], .long 0),
    (788, .lcmp, 1, 15, 0, 0, 0, 0, [], .null),
    (789, .ifCond .eq 5, 3, 20, 794, 0, 0, 0, [], .null),
    (792, .iconst 0, 1, 0, 0, 0, 0, 0, [], .int 0),
    (793, .ireturn, 1, 56, 0, 0, 0, 0, [], .null)]
def kL_law_788 : List Item := [(788, .lcmp, 1, 15, 0, 0, 0, 0, [], .null),
    (789, .ifCond .eq 5, 3, 20, 794, 0, 0, 0, [], .null),
    (792, .iconst 0, 1, 0, 0, 0, 0, 0, [], .int 0),
    (793, .ireturn, 1, 56, 0, 0, 0, 0, [], .null)]
def kL_law_794 : List Item := [(794, .goto 773, 3, 22, 1567, 0, 0, 0, [], .null)]
def kL_law_797 : List Item := [(797, .aload_n 1, 1, 3, 1, 0, 0, 0, [], .null),
    (798, .aload_n 0, 1, 3, 0, 0, 0, 0, [], .null),
    (799, .iload 4, 2, 1, 4, 0, 0, 0, [], .null),
    (801, .iconst 1, 1, 0, 0, 0, 0, 0, [], .int 1),
    (802, .iadd, 1, 8, 0, 0, 0, 0, [], .null),
    (803, .iaload, 1, 34, 0, 0, 0, 0, [], .null),
    (804, .aload_n 3, 1, 3, 3, 0, 0, 0, [], .null),
    (805, .invokestatic 145, 3, 48, 204, 3, 1, 6, [], .null),
    (808, .istore 5, 2, 4, 5, 0, 0, 0, [], .null),
    (810, .aload_n 2, 1, 3, 2, 0, 0, 0, [], .null),
    (811, .aload_n 0, 1, 3, 0, 0, 0, 0, [], .null),
    (812, .iload 4, 2, 1, 4, 0, 0, 0, [], .null),
    (814, .iconst 1, 1, 0, 0, 0, 0, 0, [], .int 1),
    (815, .iadd, 1, 8, 0, 0, 0, 0, [], .null),
    (816, .iaload, 1, 34, 0, 0, 0, 0, [], .null),
    (817, .invokevirtual 147, 3, 48, 183, 2, 0, 0, [11], .null),
    (820, .istore 6, 2, 4, 6, 0, 0, 0, [], .null),
    (822, .aload_n 2, 1, 3, 2, 0, 0, 0, [], .null),
    (823, .invokevirtual 95, 3, 48, 178, 1, 0, 0, [11], .null),
    (826, .iload 5, 2, 1, 5, 0, 0, 0, [], .null),
    (828, .if_icmp .eq 5, 3, 21, 833, 0, 0, 0, [], .null),
    (831, .iconst 0, 1, 0, 0, 0, 0, 0, [], .int 0),
    (832, .ireturn, 1, 56, 0, 0, 0, 0, [], .null)]
def kL_law_833 : List Item := [(833, .iload 5, 2, 1, 5, 0, 0, 0, [], .null),
    (835, .ifCond .ne 15, 3, 20, 850, 1, 0, 0, [], .null),
    (838, .aload_n 3, 1, 3, 3, 0, 0, 0, [], .null),
    (839, .iconst 0, 1, 0, 0, 0, 0, 0, [], .int 0),
    (840, .laload, 1, 32, 0, 0, 0, 0, [], .null),
    (841, .iload 6, 2, 1, 6, 0, 0, 0, [], .null),
    (843, .i2l, 1, 12, 0, 0, 0, 0, [], .null),
    (844, .lcmp, 1, 15, 0, 0, 0, 0, [], .null),
    (845, .ifCond .eq 5, 3, 20, 850, 0, 0, 0, [], .null),
    (848, .iconst 0, 1, 0, 0, 0, 0, 0, [], .int 0),
    (849, .ireturn, 1, 56, 0, 0, 0, 0, [], .null)]
def kL_law_850 : List Item := [(850, .goto 717, 3, 22, 1567, 0, 0, 0, [], .null)]
def kL_law_853 : List Item := [(853, .aload_n 1, 1, 3, 1, 0, 0, 0, [], .null),
    (854, .aload_n 0, 1, 3, 0, 0, 0, 0, [], .null),
    (855, .iload 4, 2, 1, 4, 0, 0, 0, [], .null),
    (857, .iconst 1, 1, 0, 0, 0, 0, 0, [], .int 1),
    (858, .iadd, 1, 8, 0, 0, 0, 0, [], .null),
    (859, .iaload, 1, 34, 0, 0, 0, 0, [], .null),
    (860, .aload_n 3, 1, 3, 3, 0, 0, 0, [], .null),
    (861, .invokestatic 148, 3, 48, 201, 3, 1, 6, [], .null),
    (864, .istore 5, 2, 4, 5, 0, 0, 0, [], .null),
    (866, .aload_n 2, 1, 3, 2, 0, 0, 0, [], .null),
    (867, .aload_n 0, 1, 3, 0, 0, 0, 0, [], .null),
    (868, .iload 4, 2, 1, 4, 0, 0, 0, [], .null),
    (870, .iconst 1, 1, 0, 0, 0, 0, 0, [], .int 1),
    (871, .iadd, 1, 8, 0, 0, 0, 0, [], .null),
    (872, .iaload, 1, 34, 0, 0, 0, 0, [], .null),
    (873, .invokevirtual 150, 3, 48, 175, 2, 0, 0, [11], .null),
    (876, .istore 6, 2, 4, 6, 0, 0, 0, [], .null),
    (878, .aload_n 2, 1, 3, 2, 0, 0, 0, [], .null),
    (879, .invokevirtual 95, 3, 48, 178, 1, 0, 0, [11], .null),
    (882, .iload 5, 2, 1, 5, 0, 0, 0, [], .null),
    (884, .if_icmp .eq 5, 3, 21, 889, 0, 0, 0, [], .null),
    (887, .iconst 0, 1, 0, 0, 0, 0, 0, [], .int 0),
    (888, .ireturn, 1, 56, 0, 0, 0, 0, [], .null)]
def kL_law_889 : List Item := [(889, .iload 5, 2, 1, 5, 0, 0, 0, [], .null),
    (891, .ifCond .ne 15, 3, 20, 906, 1, 0, 0, [], .null),
    (894, .aload_n 3, 1, 3, 3, 0, 0, 0, [], .null),
    (895, .iconst 0, 1, 0, 0, 0, 0, 0, [], .int 0),
    (896, .laload, 1, 32, 0, 0, 0, 0, [], .null),
    (897, .iload 6, 2, 1, 6, 0, 0, 0, [], .null),
    (899, .i2l, 1, 12, 0, 0, 0, 0, [], .null),
    (900, .lcmp, 1, 15, 0, 0, 0, 0, [], .null),
    (901, .ifCond .eq 5, 3, 20, 906, 0, 0, 0, [], .null),
    (904, .iconst 0, 1, 0, 0, 0, 0, 0, [], .int 0),
    (905, .ireturn, 1, 56, 0, 0, 0, 0, [], .null)]
def kL_law_906 : List Item := [(906, .goto 661, 3, 22, 1567, 0, 0, 0, [], .null)]
def kL_law_909 : List Item := [(909, .aload_n 1, 1, 3, 1, 0, 0, 0, [], .null),
    (910, .aload_n 0, 1, 3, 0, 0, 0, 0, [], .null),
    (911, .iload 4, 2, 1, 4, 0, 0, 0, [], .null),
    (913, .iconst 1, 1, 0, 0, 0, 0, 0, [], .int 1),
    (914, .iadd, 1, 8, 0, 0, 0, 0, [], .null),
    (915, .iaload, 1, 34, 0, 0, 0, 0, [], .null),
    (916, .aload_n 3, 1, 3, 3, 0, 0, 0, [], .null),
    (917, .invokestatic 151, 3, 48, 198, 3, 1, 6, [], .null),
    (920, .istore 5, 2, 4, 5, 0, 0, 0, [], .null),
    (922, .aload_n 2, 1, 3, 2, 0, 0, 0, [], .null),
    (923, .aload_n 0, 1, 3, 0, 0, 0, 0, [], .null),
    (924, .iload 4, 2, 1, 4, 0, 0, 0, [], .null),
    (926, .iconst 1, 1, 0, 0, 0, 0, 0, [], .int 1),
    (927, .iadd, 1, 8, 0, 0, 0, 0, [], .null),
    (928, .iaload, 1, 34, 0, 0, 0, 0, [], .null),
    (929, .invokevirtual 153, 3, 48, 170, 2, 0, 0, [11], .null),
    (932, .istore 6, 2, 4, 6, 0, 0, 0, [], .null),
    (934, .aload_n 2, 1, 3, 2, 0, 0, 0, [], .null),
    (935, .invokevirtual 95, 3, 48, 178, 1, 0, 0, [11], .null),
    (938, .iload 5, 2, 1, 5, 0, 0, 0, [], .null),
    (940, .if_icmp .eq 5, 3, 21, 945, 0, 0, 0, [], .null),
    (943, .iconst 0, 1, 0, 0, 0, 0, 0, [], .int 0),
    (944, .ireturn, 1, 56, 0, 0, 0, 0, [], .null)]
def kL_law_945 : List Item := [(945, .iload 5, 2, 1, 5, 0, 0, 0, [], .null),
    (947, .ifCond .ne 15, 3, 20, 962, 1, 0, 0, [], .null),
    (950, .aload_n 3, 1, 3, 3, 0, 0, 0, [], .null),
    (951, .iconst 0, 1, 0, 0, 0, 0, 0, [], .int 0),
    (952, .laload, 1, 32, 0, 0, 0, 0, [], .null),
    (953, .iload 6, 2, 1, 6, 0, 0, 0, [], .null),
    (955, .i2l, 1, 12, 0, 0, 0, 0, [], .null),
    (956, .lcmp, 1, 15, 0, 0, 0, 0, [], .null),
    (957, .ifCond .eq 5, 3, 20, 962, 0, 0, 0, [], .null),
    (960, .iconst 0, 1, 0, 0, 0, 0, 0, [], .int 0),
    (961, .ireturn, 1, 56, 0, 0, 0, 0, [], .null)]
def kL_law_962 : List Item := [(962, .goto 605, 3, 22, 1567, 0, 0, 0, [], .null)]
def kL_law_965 : List Item := [(965, .aload_n 1, 1, 3, 1, 0, 0, 0, [], .null),
    (966, .aload_n 0, 1, 3, 0, 0, 0, 0, [], .null),
    (967, .iload 4, 2, 1, 4, 0, 0, 0, [], .null),
    (969, .iconst 1, 1, 0, 0, 0, 0, 0, [], .int 1),
    (970, .iadd, 1, 8, 0, 0, 0, 0, [], .null),
    (971, .iaload, 1, 34, 0, 0, 0, 0, [], .null),
    (972, .aload_n 3, 1, 3, 3, 0, 0, 0, [], .null),
    (973, .invokestatic 154, 3, 48, 188, 3, 1, 6, [], .null),
    (976, .istore 5, 2, 4, 5, 0, 0, 0, [], .null),
    (978, .aload_n 2, 1, 3, 2, 0, 0, 0, [], .null),
    (979, .aload_n 0, 1, 3, 0, 0, 0, 0, [], .null),
    (980, .iload 4, 2, 1, 4, 0, 0, 0, [], .null),
    (982, .iconst 1, 1, 0, 0, 0, 0, 0, [], .int 1),
    (983, .iadd, 1, 8, 0, 0, 0, 0, [], .null),
    (984, .iaload, 1, 34, 0, 0, 0, 0, [], .null),
    (985, .invokevirtual 156, 3, 48, 134, 2, 0, 0, [11], .null),
    (988, .istore 6, 2, 4, 6, 0, 0, 0, [], .null),
    (990, .aload_n 2, 1, 3, 2, 0, 0, 0, [], .null),
    (991, .invokevirtual 95, 3, 48, 178, 1, 0, 0, [11], .null),
    (994, .iload 5, 2, 1, 5, 0, 0, 0, [], .null),
    (996, .if_icmp .eq 5, 3, 21, 1001, 0, 0, 0, [], .null),
    (999, .iconst 0, 1, 0, 0, 0, 0, 0, [], .int 0),
    (1000, .ireturn, 1, 56, 0, 0, 0, 0, [], .null)]
def kL_law_1001 : List Item := [(1001, .iload 5, 2, 1, 5, 0, 0, 0, [], .null),
    (1003, .ifCond .ne 15, 3, 20, 1018, 1, 0, 0, [], .null),
    (1006, .aload_n 3, 1, 3, 3, 0, 0, 0, [], .null),
    (1007, .iconst 0, 1, 0, 0, 0, 0, 0, [], .int 0),
    (1008, .laload, 1, 32, 0, 0, 0, 0, [], .null),
    (1009, .iload 6, 2, 1, 6, 0, 0, 0, [], .null),
    (1011, .i2l, 1, 12, 0, 0, 0, 0, [], .null),
    (1012, .lcmp, 1, 15, 0, 0, 0, 0, [], .null),
    (1013, .ifCond .eq 5, 3, 20, 1018, 0, 0, 0, [], .null),
    (1016, .iconst 0, 1, 0, 0, 0, 0, 0, [], .int 0),
    (1017, .ireturn, 1, 56, 0, 0, 0, 0, [], .null)]
def kL_law_1018 : List Item := [(1018, .goto 549, 3, 22, 1567, 0, 0, 0, [], .null)]
def kL_law_1021 : List Item := [(1021, .aload_n 1, 1, 3, 1, 0, 0, 0, [], .null),
    (1022, .aload_n 0, 1, 3, 0, 0, 0, 0, [], .null),
    (1023, .iload 4, 2, 1, 4, 0, 0, 0, [], .null),
    (1025, .iconst 1, 1, 0, 0, 0, 0, 0, [], .int 1),
    (1026, .iadd, 1, 8, 0, 0, 0, 0, [], .null),
    (1027, .iaload, 1, 34, 0, 0, 0, 0, [], .null),
    (1028, .aload_n 3, 1, 3, 3, 0, 0, 0, [], .null),
    (1029, .invokestatic 157, 3, 48, 202, 3, 1, 6, [], .null),
    (1032, .istore 5, 2, 4, 5, 0, 0, 0, [], .null),
    (1034, .aload_n 2, 1, 3, 2, 0, 0, 0, [], .null),
    (1035, .aload_n 0, 1, 3, 0, 0, 0, 0, [], .null),
    (1036, .iload 4, 2, 1, 4, 0, 0, 0, [], .null),
    (1038, .iconst 1, 1, 0, 0, 0, 0, 0, [], .int 1),
    (1039, .iadd, 1, 8, 0, 0, 0, 0, [], .null),
    (1040, .iaload, 1, 34, 0, 0, 0, 0, [], .null),
    (1041, .invokevirtual 159, 3, 48, 179, 2, 0, 0, [11], .null),
    (1044, .lstore 6, 2, 6, 6, 0, 0, 0, [], .null),
    (1046, .aload_n 2, 1, 3, 2, 0, 0, 0, [], .null),
    (1047, .invokevirtual 95, 3, 48, 178, 1, 0, 0, [11], .null),
    (1050, .iload 5, 2, 1, 5, 0, 0, 0, [], .null),
    (1052, .if_icmp .eq 5, 3, 21, 1057, 0, 0, 0, [], .null),
    (1055, .iconst 0, 1, 0, 0, 0, 0, 0, [], .int 0),
    (1056, .ireturn, 1, 56, 0, 0, 0, 0, [], .null)]
def kL_law_1057 : List Item := [(1057, .iload 5, 2, 1, 5, 0, 0, 0, [], .null),
    (1059, .ifCond .ne 14, 3, 20, 1073, 1, 0, 0, [], .null),
    (1062, .aload_n 3, 1, 3, 3, 0, 0, 0, [], .null),
    (1063, .iconst 0, 1, 0, 0, 0, 0, 0, [], .int 0),
    (1064, .laload, 1, 32, 0, 0, 0, 0, [], .null),
    (1065, .lload 6, 2, 2, 6, 0, 0, 0, [], .null),
    (1067, .lcmp, 1, 15, 0, 0, 0, 0, [], .null),
    (1068, .ifCond .eq 5, 3, 20, 1073, 0, 0, 0, [], .null),
    (1071, .iconst 0, 1, 0, 0, 0, 0, 0, [], .int 0),
    (1072, .ireturn, 1, 56, 0, 0, 0, 0, [], .null)]
def kL_law_1073 : List Item := [(1073, .goto 494, 3, 22, 1567, 0, 0, 0, [], .null)]
def kL_law_1076 : List Item := [(1076, .aload_n 1, 1, 3, 1, 0, 0, 0, [], .null),
    (1077, .aload_n 0, 1, 3, 0, 0, 0, 0, [], .null),
    (1078, .iload 4, 2, 1, 4, 0, 0, 0, [], .null),
    (1080, .iconst 1, 1, 0, 0, 0, 0, 0, [], .int 1),
    (1081, .iadd, 1, 8, 0, 0, 0, 0, [], .null),
    (1082, .iaload, 1, 34, 0, 0, 0, 0, [], .null),
    (1083, .aload_n 0, 1, 3, 0, 0, 0, 0, [], .null),
    (1084, .iload 4, 2, 1, 4, 0, 0, 0, [], .null),
    (1086, .iconst 2, 1, 0, 0, 0, 0, 0, [], .int 2),
    (1087, .iadd, 1, 8, 0, 0, 0, 0, [], .null),
    (1088, .iaload, 1, 34, 0, 0, 0, 0, [], .null),
    (1089, .aload_n 3, 1, 3, 3, 0, 0, 0, [], .null),
    (1090, .invokestatic 160, 3, 48, 187, 4, 2, 12, [], .null),
    (1093, .istore 5, 2, 4, 5, 0, 0, 0, [], .null),
    (1095, .aload_n 2, 1, 3, 2, 0, 0, 0, [], .null),
    (1096, .aload_n 0, 1, 3, 0, 0, 0, 0, [], .null),
    (1097, .iload 4, 2, 1, 4, 0, 0, 0, [], .null),
    (1099, .iconst 1, 1, 0, 0, 0, 0, 0, [], .int 1),
    (1100, .iadd, 1, 8, 0, 0, 0, 0, [], .null),
    (1101, .iaload, 1, 34, 0, 0, 0, 0, [], .null),
    (1102, .aload_n 0, 1, 3, 0, 0, 0, 0, [], .null),
    (1103, .iload 4, 2, 1, 4, 0, 0, 0, [], .null),
    (1105, .iconst 2, 1, 0, 0, 0, 0, 0, [], .int 2),
    (1106, .iadd, 1, 8, 0, 0, 0, 0, [], .null),
    (1107, .iaload, 1, 34, 0, 0, 0, 0, [], .null),
    (1108, .invokevirtual 162, 3, 48, 130, 3, 0, 0, [11], .null),
    (1111, .istore 6, 2, 4, 6, 0, 0, 0, [], .null),
    (1113, .aload_n 2, 1, 3, 2, 0, 0, 0, [], .null),
    (1114, .invokevirtual 95, 3, 48, 178, 1, 0, 0, [11], .null),
    (1117, .iload 5, 2, 1, 5, 0, 0, 0, [], .null),
    (1119, .if_icmp .eq 5, 3, 21, 1124, 0, 0, 0, [], .null),
    (1122, .iconst 0, 1, 0, 0, 0, 0, 0, [], .int 0),
    (1123, .ireturn, 1, 56, 0, 0, 0, 0, [], .null)]
def kL_law_1124 : List Item := [(1124, .iload 5, 2, 1, 5, 0, 0, 0, [], .null),
    (1126, .ifCond .ne 15, 3, 20, 1141, 1, 0, 0, [], .null),
    (1129, .aload_n 3, 1, 3, 3, 0, 0, 0, [], .null),
    (1130, .iconst 0, 1, 0, 0, 0, 0, 0, [], .int 0),
    (1131, .laload, 1, 32, 0, 0, 0, 0, [], .null),
    (1132, .iload 6, 2, 1, 6, 0, 0, 0, [], .null),
    (1134, .i2l, 1, 12, 0, 0, 0, 0, [], .null),
    (1135, .lcmp, 1, 15, 0, 0, 0, 0, [], .null),
    (1136, .ifCond .eq 5, 3, 20, 1141, 0, 0, 0, [], .null),
    (1139, .iconst 0, 1, 0, 0, 0, 0, 0, [], .int 0),
    (1140, .ireturn, 1, 56, 0, 0, 0, 0, [], .null)]
def kL_law_1141 : List Item := [(1141, .goto 426, 3, 22, 1567, 0, 0, 0, [], .null)]
def kL_law_1144 : List Item := [(1144, .aload_n 1, 1, 3, 1, 0, 0, 0, [], .null),
    (1145, .aload_n 0, 1, 3, 0, 0, 0, 0, [], .null),
    (1146, .iload 4, 2, 1, 4, 0, 0, 0, [], .null),
    (1148, .iconst 1, 1, 0, 0, 0, 0, 0, [], .int 1),
    (1149, .iadd, 1, 8, 0, 0, 0, 0, [], .null),
    (1150, .iaload, 1, 34, 0, 0, 0, 0, [], .null),
    (1151, .aload_n 0, 1, 3, 0, 0, 0, 0, [], .null),
    (1152, .iload 4, 2, 1, 4, 0, 0, 0, [], .null),
    (1154, .iconst 2, 1, 0, 0, 0, 0, 0, [], .int 2),
    (1155, .iadd, 1, 8, 0, 0, 0, 0, [], .null),
    (1156, .iaload, 1, 34, 0, 0, 0, 0, [], .null),
    (1157, .aload_n 3, 1, 3, 3, 0, 0, 0, [], .null),
    (1158, .invokestatic 163, 3, 48, 190, 4, 2, 12, [], .null),
    (1161, .istore 5, 2, 4, 5, 0, 0, 0, [], .null),
    (1163, .aload_n 2, 1, 3, 2, 0, 0, 0, [], .null),
    (1164, .aload_n 0, 1, 3, 0, 0, 0, 0, [], .null),
    (1165, .iload 4, 2, 1, 4, 0, 0, 0, [], .null),
    (1167, .iconst 1, 1, 0, 0, 0, 0, 0, [], .int 1),
    (1168, .iadd, 1, 8, 0, 0, 0, 0, [], .null),
    (1169, .iaload, 1, 34, 0, 0, 0, 0, [], .null),
    (1170, .aload_n 0, 1, 3, 0, 0, 0, 0, [], .null),
    (1171, .iload 4, 2, 1, 4, 0, 0, 0, [], .null),
    (1173, .iconst 2, 1, 0, 0, 0, 0, 0, [], .int 2),
    (1174, .iadd, 1, 8, 0, 0, 0, 0, [], .null),
    (1175, .iaload, 1, 34, 0, 0, 0, 0, [], .null),
    (1176, .invokevirtual 165, 3, 48, 138, 3, 0, 0, [11], .null),
    (1179, .istore 6, 2, 4, 6, 0, 0, 0, [], .null),
    (1181, .aload_n 2, 1, 3, 2, 0, 0, 0, [], .null),
    (1182, .invokevirtual 95, 3, 48, 178, 1, 0, 0, [11], .null),
    (1185, .iload 5, 2, 1, 5, 0, 0, 0, [], .null),
    (1187, .if_icmp .eq 5, 3, 21, 1192, 0, 0, 0, [], .null),
    (1190, .iconst 0, 1, 0, 0, 0, 0, 0, [], .int 0),
    (1191, .ireturn, 1, 56, 0, 0, 0, 0, [], .null)]
def kL_law_1192 : List Item := [(1192, .iload 5, 2, 1, 5, 0, 0, 0, [], .null),
    (1194, .ifCond .ne 15, 3, 20, 1209, 1, 0, 0, [], .null),
    (1197, .aload_n 3, 1, 3, 3, 0, 0, 0, [], .null),
    (1198, .iconst 0, 1, 0, 0, 0, 0, 0, [], .int 0),
    (1199, .laload, 1, 32, 0, 0, 0, 0, [], .null),
    (1200, .iload 6, 2, 1, 6, 0, 0, 0, [], .null),
    (1202, .i2l, 1, 12, 0, 0, 0, 0, [], .null),
    (1203, .lcmp, 1, 15, 0, 0, 0, 0, [], .null),
    (1204, .ifCond .eq 5, 3, 20, 1209, 0, 0, 0, [], .null),
    (1207, .iconst 0, 1, 0, 0, 0, 0, 0, [], .int 0),
    (1208, .ireturn, 1, 56, 0, 0, 0, 0, [], .null)]
def kL_law_1209 : List Item := [(1209, .goto 358, 3, 22, 1567, 0, 0, 0, [], .null)]
def kL_law_1212 : List Item := [(1212, .aload_n 1, 1, 3, 1, 0, 0, 0, [], .null),
    (1213, .aload_n 0, 1, 3, 0, 0, 0, 0, [], .null),
    (1214, .iload 4, 2, 1, 4, 0, 0, 0, [], .null),
    (1216, .iconst 1, 1, 0, 0, 0, 0, 0, [], .int 1),
    (1217, .iadd, 1, 8, 0, 0, 0, 0, [], .null),
    (1218, .iaload, 1, 34, 0, 0, 0, 0, [], .null),
    (1219, .aload_n 0, 1, 3, 0, 0, 0, 0, [], .null),
    (1220, .iload 4, 2, 1, 4, 0, 0, 0, [], .null),
    (1222, .iconst 2, 1, 0, 0, 0, 0, 0, [], .int 2),
    (1223, .iadd, 1, 8, 0, 0, 0, 0, [], .null),
    (1224, .iaload, 1, 34, 0, 0, 0, 0, [], .null),
    (1225, .aload_n 3, 1, 3, 3, 0, 0, 0, [], .null),
    (1226, .invokestatic 166, 3, 48, 186, 4, 2, 12, [], .null),
    (1229, .istore 5, 2, 4, 5, 0, 0, 0, [], .null),
    (1231, .aload_n 2, 1, 3, 2, 0, 0, 0, [], .null),
    (1232, .aload_n 0, 1, 3, 0, 0, 0, 0, [], .null),
    (1233, .iload 4, 2, 1, 4, 0, 0, 0, [], .null),
    (1235, .iconst 1, 1, 0, 0, 0, 0, 0, [], .int 1),
    (1236, .iadd, 1, 8, 0, 0, 0, 0, [], .null),
    (1237, .iaload, 1, 34, 0, 0, 0, 0, [], .null),
    (1238, .aload_n 0, 1, 3, 0, 0, 0, 0, [], .null),
    (1239, .iload 4, 2, 1, 4, 0, 0, 0, [], .null),
    (1241, .iconst 2, 1, 0, 0, 0, 0, 0, [], .int 2),
    (1242, .iadd, 1, 8, 0, 0, 0, 0, [], .null),
    (1243, .iaload, 1, 34, 0, 0, 0, 0, [], .null),
    (1244, .invokevirtual 168, 3, 48, 127, 3, 0, 0, [11], .null),
    (1247, .istore 6, 2, 4, 6, 0, 0, 0, [], .null),
    (1249, .aload_n 2, 1, 3, 2, 0, 0, 0, [], .null),
    (1250, .invokevirtual 95, 3, 48, 178, 1, 0, 0, [11], .null),
    (1253, .iload 5, 2, 1, 5, 0, 0, 0, [], .null),
    (1255, .if_icmp .eq 5, 3, 21, 1260, 0, 0, 0, [], .null),
    (1258, .iconst 0, 1, 0, 0, 0, 0, 0, [], .int 0),
    (1259, .ireturn, 1, 56, 0, 0, 0, 0, [], .null)]
def kL_law_1260 : List Item := [(1260, .iload 5, 2, 1, 5, 0, 0, 0, [], .null),
    (1262, .ifCond .ne 15, 3, 20, 1277, 1, 0, 0, [], .null),
    (1265, .aload_n 3, 1, 3, 3, 0, 0, 0, [], .null),
    (1266, .iconst 0, 1, 0, 0, 0, 0, 0, [], .int 0),
    (1267, .laload, 1, 32, 0, 0, 0, 0, [], .null),
    (1268, .iload 6, 2, 1, 6, 0, 0, 0, [], .null),
    (1270, .i2l, 1, 12, 0, 0, 0, 0, [], .null),
    (1271, .lcmp, 1, 15, 0, 0, 0, 0, [], .null),
    (1272, .ifCond .eq 5, 3, 20, 1277, 0, 0, 0, [], .null),
    (1275, .iconst 0, 1, 0, 0, 0, 0, 0, [], .int 0),
    (1276, .ireturn, 1, 56, 0, 0, 0, 0, [], .null)]
def kL_law_1277 : List Item := [(1277, .goto 290, 3, 22, 1567, 0, 0, 0, [], .null)]
def kL_law_1280 : List Item := [(1280, .aload_n 1, 1, 3, 1, 0, 0, 0, [], .null),
    (1281, .aload_n 0, 1, 3, 0, 0, 0, 0, [], .null),
    (1282, .iload 4, 2, 1, 4, 0, 0, 0, [], .null),
    (1284, .iconst 1, 1, 0, 0, 0, 0, 0, [], .int 1),
    (1285, .iadd, 1, 8, 0, 0, 0, 0, [], .null),
    (1286, .iaload, 1, 34, 0, 0, 0, 0, [], .null),
    (1287, .aload_n 0, 1, 3, 0, 0, 0, 0, [], .null),
    (1288, .iload 4, 2, 1, 4, 0, 0, 0, [], .null),
    (1290, .iconst 2, 1, 0, 0, 0, 0, 0, [], .int 2),
    (1291, .iadd, 1, 8, 0, 0, 0, 0, [], .null),
    (1292, .iaload, 1, 34, 0, 0, 0, 0, [], .null),
    (1293, .aload_n 0, 1, 3, 0, 0, 0, 0, [], .null),
    (1294, .iload 4, 2, 1, 4, 0, 0, 0, [], .null),
    (1296, .iconst 3, 1, 0, 0, 0, 0, 0, [], .int 3),
    (1297, .iadd, 1, 8, 0, 0, 0, 0, [], .null),
    (1298, .iaload, 1, 34, 0, 0, 0, 0, [], .null),
    (1299, .aload_n 3, 1, 3, 3, 0, 0, 0, [], .null),
    (1300, .invokestatic 169, 3, 48, 199, 5, 2, 12, [], .null),
    (1303, .istore 5, 2, 4, 5, 0, 0, 0, [], .null),
    (1305, .aload_n 2, 1, 3, 2, 0, 0, 0, [], .null),
    (1306, .aload_n 0, 1, 3, 0, 0, 0, 0, [], .null),
    (1307, .iload 4, 2, 1, 4, 0, 0, 0, [], .null),
    (1309, .iconst 1, 1, 0, 0, 0, 0, 0, [], .int 1),
    (1310, .iadd, 1, 8, 0, 0, 0, 0, [], .null),
    (1311, .iaload, 1, 34, 0, 0, 0, 0, [], .null),
    (1312, .aload_n 0, 1, 3, 0, 0, 0, 0, [], .null),
    (1313, .iload 4, 2, 1, 4, 0, 0, 0, [], .null),
    (1315, .iconst 2, 1, 0, 0, 0, 0, 0, [], .int 2),
    (1316, .iadd, 1, 8, 0, 0, 0, 0, [], .null),
    (1317, .iaload, 1, 34, 0, 0, 0, 0, [], .null),
    (1318, .aload_n 0, 1, 3, 0, 0, 0, 0, [], .null),
    (1319, .iload 4, 2, 1, 4, 0, 0, 0, [], .null),
    (1321, .iconst 3, 1, 0, 0, 0, 0, 0, [], .int 3),
    (1322, .iadd, 1, 8, 0, 0, 0, 0, [], .null),
    (1323, .iaload, 1, 34, 0, 0, 0, 0, [], .null),
    (1324, .invokevirtual 172, 3, 48, 172, 4, 0, 0, [11], .null),
    (1327, .istore 6, 2, 4, 6, 0, 0, 0, [], .null),
    (1329, .aload_n 2, 1, 3, 2, 0, 0, 0, [], .null),
    (1330, .invokevirtual 95, 3, 48, 178, 1, 0, 0, [11], .null),
    (1333, .iload 5, 2, 1, 5, 0, 0, 0, [], .null),
    (1335, .if_icmp .eq 5, 3, 21, 1340, 0, 0, 0, [], .null),
    (1338, .iconst 0, 1, 0, 0, 0, 0, 0, [], .int 0),
    (1339, .ireturn, 1, 56, 0, 0, 0, 0, [], .null)]
def kL_law_1340 : List Item := [(1340, .iload 5, 2, 1, 5, 0, 0, 0, [], .null),
    (1342, .ifCond .ne 15, 3, 20, 1357, 1, 0, 0, [], .null),
    (1345, .aload_n 3, 1, 3, 3, 0, 0, 0, [], .null),
    (1346, .iconst 0, 1, 0, 0, 0, 0, 0, [], .int 0),
    (1347, .laload, 1, 32, 0, 0, 0, 0, [], .null),
    (1348, .iload 6, 2, 1, 6, 0, 0, 0, [], .null),
    (1350, .i2l, 1, 12, 0, 0, 0, 0, [], .null),
    (1351, .lcmp, 1, 15, 0, 0, 0, 0, [], .null),
    (1352, .ifCond .eq 5, 3, 20, 1357, 0, 0, 0, [], .null),
    (1355, .iconst 0, 1, 0, 0, 0, 0, 0, [], .int 0),
    (1356, .ireturn, 1, 56, 0, 0, 0, 0, [], .null)]
def kL_law_1357 : List Item := [(1357, .goto 210, 3, 22, 1567, 0, 0, 0, [], .null)]
def kL_law_1360 : List Item := [(1360, .aload_n 1, 1, 3, 1, 0, 0, 0, [], .null),
    (1361, .aload_n 0, 1, 3, 0, 0, 0, 0, [], .null),
    (1362, .iload 4, 2, 1, 4, 0, 0, 0, [], .null),
    (1364, .iconst 1, 1, 0, 0, 0, 0, 0, [], .int 1),
    (1365, .iadd, 1, 8, 0, 0, 0, 0, [], .null),
    (1366, .iaload, 1, 34, 0, 0, 0, 0, [], .null),
    (1367, .aload_n 3, 1, 3, 3, 0, 0, 0, [], .null),
    (1368, .invokestatic 173, 3, 48, 197, 3, 2, 12, [], .null),
    (1371, .istore 5, 2, 4, 5, 0, 0, 0, [], .null),
    (1373, .aload_n 2, 1, 3, 2, 0, 0, 0, [], .null),
    (1374, .aload_n 0, 1, 3, 0, 0, 0, 0, [], .null),
    (1375, .iload 4, 2, 1, 4, 0, 0, 0, [], .null),
    (1377, .iconst 1, 1, 0, 0, 0, 0, 0, [], .int 1),
    (1378, .iadd, 1, 8, 0, 0, 0, 0, [], .null),
    (1379, .iaload, 1, 34, 0, 0, 0, 0, [], .null),
    (1380, .invokevirtual 175, 3, 48, 167, 2, 0, 0, [11], .null),
    (1383, .istore 6, 2, 4, 6, 0, 0, 0, [], .null),
    (1385, .aload_n 2, 1, 3, 2, 0, 0, 0, [], .null),
    (1386, .invokevirtual 95, 3, 48, 178, 1, 0, 0, [11], .null),
    (1389, .iload 5, 2, 1, 5, 0, 0, 0, [], .null),
    (1391, .if_icmp .eq 5, 3, 21, 1396, 0, 0, 0, [], .null),
    (1394, .iconst 0, 1, 0, 0, 0, 0, 0, [], .int 0),
    (1395, .ireturn, 1, 56, 0, 0, 0, 0, [], .null)]
def kL_law_1396 : List Item := [(1396, .iload 5, 2, 1, 5, 0, 0, 0, [], .null),
    (1398, .ifCond .ne 15, 3, 20, 1413, 1, 0, 0, [], .null),
    (1401, .aload_n 3, 1, 3, 3, 0, 0, 0, [], .null),
    (1402, .iconst 0, 1, 0, 0, 0, 0, 0, [], .int 0),
    (1403, .laload, 1, 32, 0, 0, 0, 0, [], .null),
    (1404, .iload 6, 2, 1, 6, 0, 0, 0, [], .null),
    (1406, .i2l, 1, 12, 0, 0, 0, 0, [], .null),
    (1407, .lcmp, 1, 15, 0, 0, 0, 0, [], .null),
    (1408, .ifCond .eq 5, 3, 20, 1413, 0, 0, 0, [], .null),
    (1411, .iconst 0, 1, 0, 0, 0, 0, 0, [], .int 0),
    (1412, .ireturn, 1, 56, 0, 0, 0, 0, [], .null)]
def kL_law_1413 : List Item := [(1413, .goto 154, 3, 22, 1567, 0, 0, 0, [], .null)]
def kL_law_1416 : List Item := [(1416, .aload_n 1, 1, 3, 1, 0, 0, 0, [], .null),
    (1417, .aload_n 0, 1, 3, 0, 0, 0, 0, [], .null),
    (1418, .iload 4, 2, 1, 4, 0, 0, 0, [], .null),
    (1420, .iconst 1, 1, 0, 0, 0, 0, 0, [], .int 1),
    (1421, .iadd, 1, 8, 0, 0, 0, 0, [], .null),
    (1422, .iaload, 1, 34, 0, 0, 0, 0, [], .null),
    (1423, .aload_n 3, 1, 3, 3, 0, 0, 0, [], .null),
    (1424, .invokestatic 176, 3, 48, 189, 3, 2, 12, [], .null),
    (1427, .istore 5, 2, 4, 5, 0, 0, 0, [], .null),
    (1429, .aload_n 2, 1, 3, 2, 0, 0, 0, [], .null),
    (1430, .aload_n 0, 1, 3, 0, 0, 0, 0, [], .null),
    (1431, .iload 4, 2, 1, 4, 0, 0, 0, [], .null),
    (1433, .iconst 1, 1, 0, 0, 0, 0, 0, [], .int 1),
    (1434, .iadd, 1, 8, 0, 0, 0, 0, [], .null),
    (1435, .iaload, 1, 34, 0, 0, 0, 0, [], .null),
    (1436, .invokevirtual 178, 3, 48, 135, 2, 0, 0, [11], .null),
    (1439, .istore 6, 2, 4, 6, 0, 0, 0, [], .null),
    (1441, .aload_n 2, 1, 3, 2, 0, 0, 0, [], .null),
    (1442, .invokevirtual 95, 3, 48, 178, 1, 0, 0, [11], .null),
    (1445, .iload 5, 2, 1, 5, 0, 0, 0, [], .null),
    (1447, .if_icmp .eq 5, 3, 21, 1452, 0, 0, 0, [], .null),
    (1450, .iconst 0, 1, 0, 0, 0, 0, 0, [], .int 0),
    (1451, .ireturn, 1, 56, 0, 0, 0, 0, [], .null)]
def kL_law_1452 : List Item := [(1452, .iload 5, 2, 1, 5, 0, 0, 0, [], .null),
    (1454, .ifCond .ne 15, 3, 20, 1469, 1, 0, 0, [], .null),
    (1457, .aload_n 3, 1, 3, 3, 0, 0, 0, [], .null),
    (1458, .iconst 0, 1, 0, 0, 0, 0, 0, [], .int 0),
    (1459, .laload, 1, 32, 0, 0, 0, 0, [], .null),
    (1460, .iload 6, 2, 1, 6, 0, 0, 0, [], .null),
    (1462, .i2l, 1, 12, 0, 0, 0, 0, [], .null),
    (1463, .lcmp, 1, 15, 0, 0, 0, 0, [], .null),
    (1464, .ifCond .eq 5, 3, 20, 1469, 0, 0, 0, [], .null),
    (1467, .iconst 0, 1, 0, 0, 0, 0, 0, [], .int 0),
    (1468, .ireturn, 1, 56, 0, 0, 0, 0, [], .null)]
def kL_law_1469 : List Item := [(1469, .goto 98, 3, 22, 1567, 0, 0, 0, [], .null)]
def kL_law_1472 : List Item := [(1472, .aload_n 1, 1, 3, 1, 0, 0, 0, [], .null),
    (1473, .aload_n 0, 1, 3, 0, 0, 0, 0, [], .null),
    (1474, .iload 4, 2, 1, 4, 0, 0, 0, [], .null),
    (1476, .iconst 1, 1, 0, 0, 0, 0, 0, [], .int 1),
    (1477, .iadd, 1, 8, 0, 0, 0, 0, [], .null),
    (1478, .iaload, 1, 34, 0, 0, 0, 0, [], .null),
    (1479, .aload_n 0, 1, 3, 0, 0, 0, 0, [], .null),
    (1480, .iload 4, 2, 1, 4, 0, 0, 0, [], .null),
    (1482, .iconst 2, 1, 0, 0, 0, 0, 0, [], .int 2),
    (1483, .iadd, 1, 8, 0, 0, 0, 0, [], .null),
    (1484, .iaload, 1, 34, 0, 0, 0, 0, [], .null),
    (1485, .aload_n 3, 1, 3, 3, 0, 0, 0, [], .null),
    (1486, .invokestatic 179, 3, 48, 200, 4, 2, 12, [], .null),
    (1489, .istore 5, 2, 4, 5, 0, 0, 0, [], .null),
    (1491, .aload_n 2, 1, 3, 2, 0, 0, 0, [], .null),
    (1492, .aload_n 0, 1, 3, 0, 0, 0, 0, [], .null),
    (1493, .iload 4, 2, 1, 4, 0, 0, 0, [], .null),
    (1495, .iconst 1, 1, 0, 0, 0, 0, 0, [], .int 1),
    (1496, .iadd, 1, 8, 0, 0, 0, 0, [], .null),
    (1497, .iaload, 1, 34, 0, 0, 0, 0, [], .null),
    (1498, .aload_n 0, 1, 3, 0, 0, 0, 0, [], .null),
    (1499, .iload 4, 2, 1, 4, 0, 0, 0, [], .null),
    (1501, .iconst 2, 1, 0, 0, 0, 0, 0, [], .int 2),
    (1502, .iadd, 1, 8, 0, 0, 0, 0, [], .null),
    (1503, .iaload, 1, 34, 0, 0, 0, 0, [], .null),
    (1504, .invokevirtual 181, 3, 48, 173, 3, 0, 0, [11], .null),
    (1507, .istore 6, 2, 4, 6, 0, 0, 0, [], .null),
    (1509, .aload_n 2, 1, 3, 2, 0, 0, 0, [], .null),
    (1510, .invokevirtual 95, 3, 48, 178, 1, 0, 0, [11], .null),
    (1513, .iload 5, 2, 1, 5, 0, 0, 0, [], .null),
    (1515, .if_icmp .eq 5, 3, 21, 1520, 0, 0, 0, [], .null),
    (1518, .iconst 0, 1, 0, 0, 0, 0, 0, [], .int 0),
    (1519, .ireturn, 1, 56, 0, 0, 0, 0, [], .null)]
def kL_law_1520 : List Item := [(1520, .iload 5, 2, 1, 5, 0, 0, 0, [], .null),
    (1522, .ifCond .ne 15, 3, 20, 1537, 1, 0, 0, [], .null),
    (1525, .aload_n 3, 1, 3, 3, 0, 0, 0, [], .null),
    (1526, .iconst 0, 1, 0, 0, 0, 0, 0, [], .int 0),
    (1527, .laload, 1, 32, 0, 0, 0, 0, [], .null),
    (1528, .iload 6, 2, 1, 6, 0, 0, 0, [], .null),
    (1530, .i2l, 1, 12, 0, 0, 0, 0, [], .null),
    (1531, .lcmp, 1, 15, 0, 0, 0, 0, [], .null),
    (1532, .ifCond .eq 5, 3, 20, 1537, 0, 0, 0, [], .null),
    (1535, .iconst 0, 1, 0, 0, 0, 0, 0, [], .int 0),
    (1536, .ireturn, 1, 56, 0, 0, 0, 0, [], .null)]
def kL_law_1537 : List Item := [(1537, .goto 30, 3, 22, 1567, 0, 0, 0, [], .null)]
def kL_law_1540 : List Item := [(1540, .aload_n 1, 1, 3, 1, 0, 0, 0, [], .null),
    (1541, .invokevirtual 182, 3, 48, 106, 1, 0, 0, [10], .null),
    (1544, .aload_n 2, 1, 3, 2, 0, 0, 0, [], .null),
    (1545, .invokevirtual 185, 3, 48, 182, 1, 0, 0, [11], .null),
    (1548, .if_icmp .eq 19, 3, 21, 1567, 0, 0, 0, [], .null),
    (1551, .iconst 0, 1, 0, 0, 0, 0, 0, [], .int 0),
    (1552, .ireturn, 1, 56, 0, 0, 0, 0, [], .null)]
def kL_law_1553 : List Item := [(1553, .aload_n 1, 1, 3, 1, 0, 0, 0, [], .null),
    (1554, .invokevirtual 186, 3, 48, 78, 1, 0, 0, [10], .null),
    (1557, .aload_n 2, 1, 3, 2, 0, 0, 0, [], .null),
    (1558, .invokevirtual 190, 3, 48, 115, 1, 0, 0, [11], .null),
    (1561, .lcmp, 1, 15, 0, 0, 0, 0, [], .null),
    (1562, .ifCond .eq 5, 3, 20, 1567, 0, 0, 0, [], .null),
    (1565, .iconst 0, 1, 0, 0, 0, 0, 0, [], .int 0),
    (1566, .ireturn, 1, 56, 0, 0, 0, 0, [], .null)]
def kL_law_1567 : List Item := [(1567, .iinc 4 6, 3, 7, 4, 0, 0, 0, [], .int 6),
    (1570, .goto (-1547), 3, 22, 23, 0, 0, 0, [], .null)]
def kL_law_1573 : List Item := [(1573, .iconst 1, 1, 0, 0, 0, 0, 0, [], .int 1),
    (1574, .ireturn, 1, 56, 0, 0, 0, 0, [], .null)]
def kL_law : Code9 := [(0, kL_law_0), (23, kL_law_23), (172, kL_law_172), (245, kL_law_245), (281, kL_law_281), (298, kL_law_298), (301, kL_law_301), (314, kL_law_314), (327, kL_law_327), (340, kL_law_340), (353, kL_law_353), (366, kL_law_366), (402, kL_law_402), (419, kL_law_419), (422, kL_law_422), (458, kL_law_458), (475, kL_law_475), (478, kL_law_478), (491, kL_law_491), (527, kL_law_527), (544, kL_law_544), (547, kL_law_547), (595, kL_law_595), (612, kL_law_612), (615, kL_law_615), (651, kL_law_651), (668, kL_law_668), (671, kL_law_671), (707, kL_law_707), (724, kL_law_724), (725, kL_law_725), (731, kL_law_731), (734, kL_law_734), (770, kL_law_770), (787, kL_law_787), (788, kL_law_788), (794, kL_law_794), (797, kL_law_797), (833, kL_law_833), (850, kL_law_850), (853, kL_law_853), (889, kL_law_889), (906, kL_law_906), (909, kL_law_909), (945, kL_law_945), (962, kL_law_962), (965, kL_law_965), (1001, kL_law_1001), (1018, kL_law_1018), (1021, kL_law_1021), (1057, kL_law_1057), (1073, kL_law_1073), (1076, kL_law_1076), (1124, kL_law_1124), (1141, kL_law_1141), (1144, kL_law_1144), (1192, kL_law_1192), (1209, kL_law_1209), (1212, kL_law_1212), (1260, kL_law_1260), (1277, kL_law_1277), (1280, kL_law_1280), (1340, kL_law_1340), (1357, kL_law_1357), (1360, kL_law_1360), (1396, kL_law_1396), (1413, kL_law_1413), (1416, kL_law_1416), (1452, kL_law_1452), (1469, kL_law_1469), (1472, kL_law_1472), (1520, kL_law_1520), (1537, kL_law_1537), (1540, kL_law_1540), (1553, kL_law_1553), (1567, kL_law_1567), (1573, kL_law_1573)]
theorem rL_law_0 (sa : Nat → Nat) (E : Nat → Sem) (MC MS : Nat) (HX : Nat → Nat → Option Nat) (Q : Option Value → Mm → Prop) (X : Nat → Mm → Prop) (L : List Slot) (st : List Value) (M : Mm) (nc ns : Nat) : Run sa E MC MS HX Q X kL_law 0 L st M nc ns = bk sa E MC MS HX (Run sa E MC MS HX Q X kL_law) Q X kL_law_0 L st M nc ns := Run_eq sa E MC MS HX Q X _ _ _ _ _ _ _
theorem rL_law_23 (sa : Nat → Nat) (E : Nat → Sem) (MC MS : Nat) (HX : Nat → Nat → Option Nat) (Q : Option Value → Mm → Prop) (X : Nat → Mm → Prop) (L : List Slot) (st : List Value) (M : Mm) (nc ns : Nat) : Run sa E MC MS HX Q X kL_law 23 L st M nc ns = bk sa E MC MS HX (Run sa E MC MS HX Q X kL_law) Q X kL_law_23 L st M nc ns := Run_eq sa E MC MS HX Q X _ _ _ _ _ _ _
theorem rL_law_172 (sa : Nat → Nat) (E : Nat → Sem) (MC MS : Nat) (HX : Nat → Nat → Option Nat) (Q : Option Value → Mm → Prop) (X : Nat → Mm → Prop) (L : List Slot) (st : List Value) (M : Mm) (nc ns : Nat) : Run sa E MC MS HX Q X kL_law 172 L st M nc ns = bk sa E MC MS HX (Run sa E MC MS HX Q X kL_law) Q X kL_law_172 L st M nc ns := Run_eq sa E MC MS HX Q X _ _ _ _ _ _ _
theorem rL_law_245 (sa : Nat → Nat) (E : Nat → Sem) (MC MS : Nat) (HX : Nat → Nat → Option Nat) (Q : Option Value → Mm → Prop) (X : Nat → Mm → Prop) (L : List Slot) (st : List Value) (M : Mm) (nc ns : Nat) : Run sa E MC MS HX Q X kL_law 245 L st M nc ns = bk sa E MC MS HX (Run sa E MC MS HX Q X kL_law) Q X kL_law_245 L st M nc ns := Run_eq sa E MC MS HX Q X _ _ _ _ _ _ _
theorem rL_law_281 (sa : Nat → Nat) (E : Nat → Sem) (MC MS : Nat) (HX : Nat → Nat → Option Nat) (Q : Option Value → Mm → Prop) (X : Nat → Mm → Prop) (L : List Slot) (st : List Value) (M : Mm) (nc ns : Nat) : Run sa E MC MS HX Q X kL_law 281 L st M nc ns = bk sa E MC MS HX (Run sa E MC MS HX Q X kL_law) Q X kL_law_281 L st M nc ns := Run_eq sa E MC MS HX Q X _ _ _ _ _ _ _
theorem rL_law_298 (sa : Nat → Nat) (E : Nat → Sem) (MC MS : Nat) (HX : Nat → Nat → Option Nat) (Q : Option Value → Mm → Prop) (X : Nat → Mm → Prop) (L : List Slot) (st : List Value) (M : Mm) (nc ns : Nat) : Run sa E MC MS HX Q X kL_law 298 L st M nc ns = bk sa E MC MS HX (Run sa E MC MS HX Q X kL_law) Q X kL_law_298 L st M nc ns := Run_eq sa E MC MS HX Q X _ _ _ _ _ _ _
theorem rL_law_301 (sa : Nat → Nat) (E : Nat → Sem) (MC MS : Nat) (HX : Nat → Nat → Option Nat) (Q : Option Value → Mm → Prop) (X : Nat → Mm → Prop) (L : List Slot) (st : List Value) (M : Mm) (nc ns : Nat) : Run sa E MC MS HX Q X kL_law 301 L st M nc ns = bk sa E MC MS HX (Run sa E MC MS HX Q X kL_law) Q X kL_law_301 L st M nc ns := Run_eq sa E MC MS HX Q X _ _ _ _ _ _ _
theorem rL_law_314 (sa : Nat → Nat) (E : Nat → Sem) (MC MS : Nat) (HX : Nat → Nat → Option Nat) (Q : Option Value → Mm → Prop) (X : Nat → Mm → Prop) (L : List Slot) (st : List Value) (M : Mm) (nc ns : Nat) : Run sa E MC MS HX Q X kL_law 314 L st M nc ns = bk sa E MC MS HX (Run sa E MC MS HX Q X kL_law) Q X kL_law_314 L st M nc ns := Run_eq sa E MC MS HX Q X _ _ _ _ _ _ _
theorem rL_law_327 (sa : Nat → Nat) (E : Nat → Sem) (MC MS : Nat) (HX : Nat → Nat → Option Nat) (Q : Option Value → Mm → Prop) (X : Nat → Mm → Prop) (L : List Slot) (st : List Value) (M : Mm) (nc ns : Nat) : Run sa E MC MS HX Q X kL_law 327 L st M nc ns = bk sa E MC MS HX (Run sa E MC MS HX Q X kL_law) Q X kL_law_327 L st M nc ns := Run_eq sa E MC MS HX Q X _ _ _ _ _ _ _
theorem rL_law_340 (sa : Nat → Nat) (E : Nat → Sem) (MC MS : Nat) (HX : Nat → Nat → Option Nat) (Q : Option Value → Mm → Prop) (X : Nat → Mm → Prop) (L : List Slot) (st : List Value) (M : Mm) (nc ns : Nat) : Run sa E MC MS HX Q X kL_law 340 L st M nc ns = bk sa E MC MS HX (Run sa E MC MS HX Q X kL_law) Q X kL_law_340 L st M nc ns := Run_eq sa E MC MS HX Q X _ _ _ _ _ _ _
theorem rL_law_353 (sa : Nat → Nat) (E : Nat → Sem) (MC MS : Nat) (HX : Nat → Nat → Option Nat) (Q : Option Value → Mm → Prop) (X : Nat → Mm → Prop) (L : List Slot) (st : List Value) (M : Mm) (nc ns : Nat) : Run sa E MC MS HX Q X kL_law 353 L st M nc ns = bk sa E MC MS HX (Run sa E MC MS HX Q X kL_law) Q X kL_law_353 L st M nc ns := Run_eq sa E MC MS HX Q X _ _ _ _ _ _ _
theorem rL_law_366 (sa : Nat → Nat) (E : Nat → Sem) (MC MS : Nat) (HX : Nat → Nat → Option Nat) (Q : Option Value → Mm → Prop) (X : Nat → Mm → Prop) (L : List Slot) (st : List Value) (M : Mm) (nc ns : Nat) : Run sa E MC MS HX Q X kL_law 366 L st M nc ns = bk sa E MC MS HX (Run sa E MC MS HX Q X kL_law) Q X kL_law_366 L st M nc ns := Run_eq sa E MC MS HX Q X _ _ _ _ _ _ _
theorem rL_law_402 (sa : Nat → Nat) (E : Nat → Sem) (MC MS : Nat) (HX : Nat → Nat → Option Nat) (Q : Option Value → Mm → Prop) (X : Nat → Mm → Prop) (L : List Slot) (st : List Value) (M : Mm) (nc ns : Nat) : Run sa E MC MS HX Q X kL_law 402 L st M nc ns = bk sa E MC MS HX (Run sa E MC MS HX Q X kL_law) Q X kL_law_402 L st M nc ns := Run_eq sa E MC MS HX Q X _ _ _ _ _ _ _
theorem rL_law_419 (sa : Nat → Nat) (E : Nat → Sem) (MC MS : Nat) (HX : Nat → Nat → Option Nat) (Q : Option Value → Mm → Prop) (X : Nat → Mm → Prop) (L : List Slot) (st : List Value) (M : Mm) (nc ns : Nat) : Run sa E MC MS HX Q X kL_law 419 L st M nc ns = bk sa E MC MS HX (Run sa E MC MS HX Q X kL_law) Q X kL_law_419 L st M nc ns := Run_eq sa E MC MS HX Q X _ _ _ _ _ _ _
theorem rL_law_422 (sa : Nat → Nat) (E : Nat → Sem) (MC MS : Nat) (HX : Nat → Nat → Option Nat) (Q : Option Value → Mm → Prop) (X : Nat → Mm → Prop) (L : List Slot) (st : List Value) (M : Mm) (nc ns : Nat) : Run sa E MC MS HX Q X kL_law 422 L st M nc ns = bk sa E MC MS HX (Run sa E MC MS HX Q X kL_law) Q X kL_law_422 L st M nc ns := Run_eq sa E MC MS HX Q X _ _ _ _ _ _ _
theorem rL_law_458 (sa : Nat → Nat) (E : Nat → Sem) (MC MS : Nat) (HX : Nat → Nat → Option Nat) (Q : Option Value → Mm → Prop) (X : Nat → Mm → Prop) (L : List Slot) (st : List Value) (M : Mm) (nc ns : Nat) : Run sa E MC MS HX Q X kL_law 458 L st M nc ns = bk sa E MC MS HX (Run sa E MC MS HX Q X kL_law) Q X kL_law_458 L st M nc ns := Run_eq sa E MC MS HX Q X _ _ _ _ _ _ _
theorem rL_law_475 (sa : Nat → Nat) (E : Nat → Sem) (MC MS : Nat) (HX : Nat → Nat → Option Nat) (Q : Option Value → Mm → Prop) (X : Nat → Mm → Prop) (L : List Slot) (st : List Value) (M : Mm) (nc ns : Nat) : Run sa E MC MS HX Q X kL_law 475 L st M nc ns = bk sa E MC MS HX (Run sa E MC MS HX Q X kL_law) Q X kL_law_475 L st M nc ns := Run_eq sa E MC MS HX Q X _ _ _ _ _ _ _
theorem rL_law_478 (sa : Nat → Nat) (E : Nat → Sem) (MC MS : Nat) (HX : Nat → Nat → Option Nat) (Q : Option Value → Mm → Prop) (X : Nat → Mm → Prop) (L : List Slot) (st : List Value) (M : Mm) (nc ns : Nat) : Run sa E MC MS HX Q X kL_law 478 L st M nc ns = bk sa E MC MS HX (Run sa E MC MS HX Q X kL_law) Q X kL_law_478 L st M nc ns := Run_eq sa E MC MS HX Q X _ _ _ _ _ _ _
theorem rL_law_491 (sa : Nat → Nat) (E : Nat → Sem) (MC MS : Nat) (HX : Nat → Nat → Option Nat) (Q : Option Value → Mm → Prop) (X : Nat → Mm → Prop) (L : List Slot) (st : List Value) (M : Mm) (nc ns : Nat) : Run sa E MC MS HX Q X kL_law 491 L st M nc ns = bk sa E MC MS HX (Run sa E MC MS HX Q X kL_law) Q X kL_law_491 L st M nc ns := Run_eq sa E MC MS HX Q X _ _ _ _ _ _ _
theorem rL_law_527 (sa : Nat → Nat) (E : Nat → Sem) (MC MS : Nat) (HX : Nat → Nat → Option Nat) (Q : Option Value → Mm → Prop) (X : Nat → Mm → Prop) (L : List Slot) (st : List Value) (M : Mm) (nc ns : Nat) : Run sa E MC MS HX Q X kL_law 527 L st M nc ns = bk sa E MC MS HX (Run sa E MC MS HX Q X kL_law) Q X kL_law_527 L st M nc ns := Run_eq sa E MC MS HX Q X _ _ _ _ _ _ _
theorem rL_law_544 (sa : Nat → Nat) (E : Nat → Sem) (MC MS : Nat) (HX : Nat → Nat → Option Nat) (Q : Option Value → Mm → Prop) (X : Nat → Mm → Prop) (L : List Slot) (st : List Value) (M : Mm) (nc ns : Nat) : Run sa E MC MS HX Q X kL_law 544 L st M nc ns = bk sa E MC MS HX (Run sa E MC MS HX Q X kL_law) Q X kL_law_544 L st M nc ns := Run_eq sa E MC MS HX Q X _ _ _ _ _ _ _
theorem rL_law_547 (sa : Nat → Nat) (E : Nat → Sem) (MC MS : Nat) (HX : Nat → Nat → Option Nat) (Q : Option Value → Mm → Prop) (X : Nat → Mm → Prop) (L : List Slot) (st : List Value) (M : Mm) (nc ns : Nat) : Run sa E MC MS HX Q X kL_law 547 L st M nc ns = bk sa E MC MS HX (Run sa E MC MS HX Q X kL_law) Q X kL_law_547 L st M nc ns := Run_eq sa E MC MS HX Q X _ _ _ _ _ _ _
theorem rL_law_595 (sa : Nat → Nat) (E : Nat → Sem) (MC MS : Nat) (HX : Nat → Nat → Option Nat) (Q : Option Value → Mm → Prop) (X : Nat → Mm → Prop) (L : List Slot) (st : List Value) (M : Mm) (nc ns : Nat) : Run sa E MC MS HX Q X kL_law 595 L st M nc ns = bk sa E MC MS HX (Run sa E MC MS HX Q X kL_law) Q X kL_law_595 L st M nc ns := Run_eq sa E MC MS HX Q X _ _ _ _ _ _ _
theorem rL_law_612 (sa : Nat → Nat) (E : Nat → Sem) (MC MS : Nat) (HX : Nat → Nat → Option Nat) (Q : Option Value → Mm → Prop) (X : Nat → Mm → Prop) (L : List Slot) (st : List Value) (M : Mm) (nc ns : Nat) : Run sa E MC MS HX Q X kL_law 612 L st M nc ns = bk sa E MC MS HX (Run sa E MC MS HX Q X kL_law) Q X kL_law_612 L st M nc ns := Run_eq sa E MC MS HX Q X _ _ _ _ _ _ _
theorem rL_law_615 (sa : Nat → Nat) (E : Nat → Sem) (MC MS : Nat) (HX : Nat → Nat → Option Nat) (Q : Option Value → Mm → Prop) (X : Nat → Mm → Prop) (L : List Slot) (st : List Value) (M : Mm) (nc ns : Nat) : Run sa E MC MS HX Q X kL_law 615 L st M nc ns = bk sa E MC MS HX (Run sa E MC MS HX Q X kL_law) Q X kL_law_615 L st M nc ns := Run_eq sa E MC MS HX Q X _ _ _ _ _ _ _
theorem rL_law_651 (sa : Nat → Nat) (E : Nat → Sem) (MC MS : Nat) (HX : Nat → Nat → Option Nat) (Q : Option Value → Mm → Prop) (X : Nat → Mm → Prop) (L : List Slot) (st : List Value) (M : Mm) (nc ns : Nat) : Run sa E MC MS HX Q X kL_law 651 L st M nc ns = bk sa E MC MS HX (Run sa E MC MS HX Q X kL_law) Q X kL_law_651 L st M nc ns := Run_eq sa E MC MS HX Q X _ _ _ _ _ _ _
theorem rL_law_668 (sa : Nat → Nat) (E : Nat → Sem) (MC MS : Nat) (HX : Nat → Nat → Option Nat) (Q : Option Value → Mm → Prop) (X : Nat → Mm → Prop) (L : List Slot) (st : List Value) (M : Mm) (nc ns : Nat) : Run sa E MC MS HX Q X kL_law 668 L st M nc ns = bk sa E MC MS HX (Run sa E MC MS HX Q X kL_law) Q X kL_law_668 L st M nc ns := Run_eq sa E MC MS HX Q X _ _ _ _ _ _ _
theorem rL_law_671 (sa : Nat → Nat) (E : Nat → Sem) (MC MS : Nat) (HX : Nat → Nat → Option Nat) (Q : Option Value → Mm → Prop) (X : Nat → Mm → Prop) (L : List Slot) (st : List Value) (M : Mm) (nc ns : Nat) : Run sa E MC MS HX Q X kL_law 671 L st M nc ns = bk sa E MC MS HX (Run sa E MC MS HX Q X kL_law) Q X kL_law_671 L st M nc ns := Run_eq sa E MC MS HX Q X _ _ _ _ _ _ _
theorem rL_law_707 (sa : Nat → Nat) (E : Nat → Sem) (MC MS : Nat) (HX : Nat → Nat → Option Nat) (Q : Option Value → Mm → Prop) (X : Nat → Mm → Prop) (L : List Slot) (st : List Value) (M : Mm) (nc ns : Nat) : Run sa E MC MS HX Q X kL_law 707 L st M nc ns = bk sa E MC MS HX (Run sa E MC MS HX Q X kL_law) Q X kL_law_707 L st M nc ns := Run_eq sa E MC MS HX Q X _ _ _ _ _ _ _
theorem rL_law_724 (sa : Nat → Nat) (E : Nat → Sem) (MC MS : Nat) (HX : Nat → Nat → Option Nat) (Q : Option Value → Mm → Prop) (X : Nat → Mm → Prop) (L : List Slot) (st : List Value) (M : Mm) (nc ns : Nat) : Run sa E MC MS HX Q X kL_law 724 L st M nc ns = bk sa E MC MS HX (Run sa E MC MS HX Q X kL_law) Q X kL_law_724 L st M nc ns := Run_eq sa E MC MS HX Q X _ _ _ _ _ _ _
theorem rL_law_725 (sa : Nat → Nat) (E : Nat → Sem) (MC MS : Nat) (HX : Nat → Nat → Option Nat) (Q : Option Value → Mm → Prop) (X : Nat → Mm → Prop) (L : List Slot) (st : List Value) (M : Mm) (nc ns : Nat) : Run sa E MC MS HX Q X kL_law 725 L st M nc ns = bk sa E MC MS HX (Run sa E MC MS HX Q X kL_law) Q X kL_law_725 L st M nc ns := Run_eq sa E MC MS HX Q X _ _ _ _ _ _ _
theorem rL_law_731 (sa : Nat → Nat) (E : Nat → Sem) (MC MS : Nat) (HX : Nat → Nat → Option Nat) (Q : Option Value → Mm → Prop) (X : Nat → Mm → Prop) (L : List Slot) (st : List Value) (M : Mm) (nc ns : Nat) : Run sa E MC MS HX Q X kL_law 731 L st M nc ns = bk sa E MC MS HX (Run sa E MC MS HX Q X kL_law) Q X kL_law_731 L st M nc ns := Run_eq sa E MC MS HX Q X _ _ _ _ _ _ _
theorem rL_law_734 (sa : Nat → Nat) (E : Nat → Sem) (MC MS : Nat) (HX : Nat → Nat → Option Nat) (Q : Option Value → Mm → Prop) (X : Nat → Mm → Prop) (L : List Slot) (st : List Value) (M : Mm) (nc ns : Nat) : Run sa E MC MS HX Q X kL_law 734 L st M nc ns = bk sa E MC MS HX (Run sa E MC MS HX Q X kL_law) Q X kL_law_734 L st M nc ns := Run_eq sa E MC MS HX Q X _ _ _ _ _ _ _
theorem rL_law_770 (sa : Nat → Nat) (E : Nat → Sem) (MC MS : Nat) (HX : Nat → Nat → Option Nat) (Q : Option Value → Mm → Prop) (X : Nat → Mm → Prop) (L : List Slot) (st : List Value) (M : Mm) (nc ns : Nat) : Run sa E MC MS HX Q X kL_law 770 L st M nc ns = bk sa E MC MS HX (Run sa E MC MS HX Q X kL_law) Q X kL_law_770 L st M nc ns := Run_eq sa E MC MS HX Q X _ _ _ _ _ _ _
theorem rL_law_787 (sa : Nat → Nat) (E : Nat → Sem) (MC MS : Nat) (HX : Nat → Nat → Option Nat) (Q : Option Value → Mm → Prop) (X : Nat → Mm → Prop) (L : List Slot) (st : List Value) (M : Mm) (nc ns : Nat) : Run sa E MC MS HX Q X kL_law 787 L st M nc ns = bk sa E MC MS HX (Run sa E MC MS HX Q X kL_law) Q X kL_law_787 L st M nc ns := Run_eq sa E MC MS HX Q X _ _ _ _ _ _ _
theorem rL_law_788 (sa : Nat → Nat) (E : Nat → Sem) (MC MS : Nat) (HX : Nat → Nat → Option Nat) (Q : Option Value → Mm → Prop) (X : Nat → Mm → Prop) (L : List Slot) (st : List Value) (M : Mm) (nc ns : Nat) : Run sa E MC MS HX Q X kL_law 788 L st M nc ns = bk sa E MC MS HX (Run sa E MC MS HX Q X kL_law) Q X kL_law_788 L st M nc ns := Run_eq sa E MC MS HX Q X _ _ _ _ _ _ _
theorem rL_law_794 (sa : Nat → Nat) (E : Nat → Sem) (MC MS : Nat) (HX : Nat → Nat → Option Nat) (Q : Option Value → Mm → Prop) (X : Nat → Mm → Prop) (L : List Slot) (st : List Value) (M : Mm) (nc ns : Nat) : Run sa E MC MS HX Q X kL_law 794 L st M nc ns = bk sa E MC MS HX (Run sa E MC MS HX Q X kL_law) Q X kL_law_794 L st M nc ns := Run_eq sa E MC MS HX Q X _ _ _ _ _ _ _
theorem rL_law_797 (sa : Nat → Nat) (E : Nat → Sem) (MC MS : Nat) (HX : Nat → Nat → Option Nat) (Q : Option Value → Mm → Prop) (X : Nat → Mm → Prop) (L : List Slot) (st : List Value) (M : Mm) (nc ns : Nat) : Run sa E MC MS HX Q X kL_law 797 L st M nc ns = bk sa E MC MS HX (Run sa E MC MS HX Q X kL_law) Q X kL_law_797 L st M nc ns := Run_eq sa E MC MS HX Q X _ _ _ _ _ _ _
theorem rL_law_833 (sa : Nat → Nat) (E : Nat → Sem) (MC MS : Nat) (HX : Nat → Nat → Option Nat) (Q : Option Value → Mm → Prop) (X : Nat → Mm → Prop) (L : List Slot) (st : List Value) (M : Mm) (nc ns : Nat) : Run sa E MC MS HX Q X kL_law 833 L st M nc ns = bk sa E MC MS HX (Run sa E MC MS HX Q X kL_law) Q X kL_law_833 L st M nc ns := Run_eq sa E MC MS HX Q X _ _ _ _ _ _ _
theorem rL_law_850 (sa : Nat → Nat) (E : Nat → Sem) (MC MS : Nat) (HX : Nat → Nat → Option Nat) (Q : Option Value → Mm → Prop) (X : Nat → Mm → Prop) (L : List Slot) (st : List Value) (M : Mm) (nc ns : Nat) : Run sa E MC MS HX Q X kL_law 850 L st M nc ns = bk sa E MC MS HX (Run sa E MC MS HX Q X kL_law) Q X kL_law_850 L st M nc ns := Run_eq sa E MC MS HX Q X _ _ _ _ _ _ _
theorem rL_law_853 (sa : Nat → Nat) (E : Nat → Sem) (MC MS : Nat) (HX : Nat → Nat → Option Nat) (Q : Option Value → Mm → Prop) (X : Nat → Mm → Prop) (L : List Slot) (st : List Value) (M : Mm) (nc ns : Nat) : Run sa E MC MS HX Q X kL_law 853 L st M nc ns = bk sa E MC MS HX (Run sa E MC MS HX Q X kL_law) Q X kL_law_853 L st M nc ns := Run_eq sa E MC MS HX Q X _ _ _ _ _ _ _
theorem rL_law_889 (sa : Nat → Nat) (E : Nat → Sem) (MC MS : Nat) (HX : Nat → Nat → Option Nat) (Q : Option Value → Mm → Prop) (X : Nat → Mm → Prop) (L : List Slot) (st : List Value) (M : Mm) (nc ns : Nat) : Run sa E MC MS HX Q X kL_law 889 L st M nc ns = bk sa E MC MS HX (Run sa E MC MS HX Q X kL_law) Q X kL_law_889 L st M nc ns := Run_eq sa E MC MS HX Q X _ _ _ _ _ _ _
theorem rL_law_906 (sa : Nat → Nat) (E : Nat → Sem) (MC MS : Nat) (HX : Nat → Nat → Option Nat) (Q : Option Value → Mm → Prop) (X : Nat → Mm → Prop) (L : List Slot) (st : List Value) (M : Mm) (nc ns : Nat) : Run sa E MC MS HX Q X kL_law 906 L st M nc ns = bk sa E MC MS HX (Run sa E MC MS HX Q X kL_law) Q X kL_law_906 L st M nc ns := Run_eq sa E MC MS HX Q X _ _ _ _ _ _ _
theorem rL_law_909 (sa : Nat → Nat) (E : Nat → Sem) (MC MS : Nat) (HX : Nat → Nat → Option Nat) (Q : Option Value → Mm → Prop) (X : Nat → Mm → Prop) (L : List Slot) (st : List Value) (M : Mm) (nc ns : Nat) : Run sa E MC MS HX Q X kL_law 909 L st M nc ns = bk sa E MC MS HX (Run sa E MC MS HX Q X kL_law) Q X kL_law_909 L st M nc ns := Run_eq sa E MC MS HX Q X _ _ _ _ _ _ _
theorem rL_law_945 (sa : Nat → Nat) (E : Nat → Sem) (MC MS : Nat) (HX : Nat → Nat → Option Nat) (Q : Option Value → Mm → Prop) (X : Nat → Mm → Prop) (L : List Slot) (st : List Value) (M : Mm) (nc ns : Nat) : Run sa E MC MS HX Q X kL_law 945 L st M nc ns = bk sa E MC MS HX (Run sa E MC MS HX Q X kL_law) Q X kL_law_945 L st M nc ns := Run_eq sa E MC MS HX Q X _ _ _ _ _ _ _
theorem rL_law_962 (sa : Nat → Nat) (E : Nat → Sem) (MC MS : Nat) (HX : Nat → Nat → Option Nat) (Q : Option Value → Mm → Prop) (X : Nat → Mm → Prop) (L : List Slot) (st : List Value) (M : Mm) (nc ns : Nat) : Run sa E MC MS HX Q X kL_law 962 L st M nc ns = bk sa E MC MS HX (Run sa E MC MS HX Q X kL_law) Q X kL_law_962 L st M nc ns := Run_eq sa E MC MS HX Q X _ _ _ _ _ _ _
theorem rL_law_965 (sa : Nat → Nat) (E : Nat → Sem) (MC MS : Nat) (HX : Nat → Nat → Option Nat) (Q : Option Value → Mm → Prop) (X : Nat → Mm → Prop) (L : List Slot) (st : List Value) (M : Mm) (nc ns : Nat) : Run sa E MC MS HX Q X kL_law 965 L st M nc ns = bk sa E MC MS HX (Run sa E MC MS HX Q X kL_law) Q X kL_law_965 L st M nc ns := Run_eq sa E MC MS HX Q X _ _ _ _ _ _ _
theorem rL_law_1001 (sa : Nat → Nat) (E : Nat → Sem) (MC MS : Nat) (HX : Nat → Nat → Option Nat) (Q : Option Value → Mm → Prop) (X : Nat → Mm → Prop) (L : List Slot) (st : List Value) (M : Mm) (nc ns : Nat) : Run sa E MC MS HX Q X kL_law 1001 L st M nc ns = bk sa E MC MS HX (Run sa E MC MS HX Q X kL_law) Q X kL_law_1001 L st M nc ns := Run_eq sa E MC MS HX Q X _ _ _ _ _ _ _
theorem rL_law_1018 (sa : Nat → Nat) (E : Nat → Sem) (MC MS : Nat) (HX : Nat → Nat → Option Nat) (Q : Option Value → Mm → Prop) (X : Nat → Mm → Prop) (L : List Slot) (st : List Value) (M : Mm) (nc ns : Nat) : Run sa E MC MS HX Q X kL_law 1018 L st M nc ns = bk sa E MC MS HX (Run sa E MC MS HX Q X kL_law) Q X kL_law_1018 L st M nc ns := Run_eq sa E MC MS HX Q X _ _ _ _ _ _ _
theorem rL_law_1021 (sa : Nat → Nat) (E : Nat → Sem) (MC MS : Nat) (HX : Nat → Nat → Option Nat) (Q : Option Value → Mm → Prop) (X : Nat → Mm → Prop) (L : List Slot) (st : List Value) (M : Mm) (nc ns : Nat) : Run sa E MC MS HX Q X kL_law 1021 L st M nc ns = bk sa E MC MS HX (Run sa E MC MS HX Q X kL_law) Q X kL_law_1021 L st M nc ns := Run_eq sa E MC MS HX Q X _ _ _ _ _ _ _
theorem rL_law_1057 (sa : Nat → Nat) (E : Nat → Sem) (MC MS : Nat) (HX : Nat → Nat → Option Nat) (Q : Option Value → Mm → Prop) (X : Nat → Mm → Prop) (L : List Slot) (st : List Value) (M : Mm) (nc ns : Nat) : Run sa E MC MS HX Q X kL_law 1057 L st M nc ns = bk sa E MC MS HX (Run sa E MC MS HX Q X kL_law) Q X kL_law_1057 L st M nc ns := Run_eq sa E MC MS HX Q X _ _ _ _ _ _ _
theorem rL_law_1073 (sa : Nat → Nat) (E : Nat → Sem) (MC MS : Nat) (HX : Nat → Nat → Option Nat) (Q : Option Value → Mm → Prop) (X : Nat → Mm → Prop) (L : List Slot) (st : List Value) (M : Mm) (nc ns : Nat) : Run sa E MC MS HX Q X kL_law 1073 L st M nc ns = bk sa E MC MS HX (Run sa E MC MS HX Q X kL_law) Q X kL_law_1073 L st M nc ns := Run_eq sa E MC MS HX Q X _ _ _ _ _ _ _
theorem rL_law_1076 (sa : Nat → Nat) (E : Nat → Sem) (MC MS : Nat) (HX : Nat → Nat → Option Nat) (Q : Option Value → Mm → Prop) (X : Nat → Mm → Prop) (L : List Slot) (st : List Value) (M : Mm) (nc ns : Nat) : Run sa E MC MS HX Q X kL_law 1076 L st M nc ns = bk sa E MC MS HX (Run sa E MC MS HX Q X kL_law) Q X kL_law_1076 L st M nc ns := Run_eq sa E MC MS HX Q X _ _ _ _ _ _ _
theorem rL_law_1124 (sa : Nat → Nat) (E : Nat → Sem) (MC MS : Nat) (HX : Nat → Nat → Option Nat) (Q : Option Value → Mm → Prop) (X : Nat → Mm → Prop) (L : List Slot) (st : List Value) (M : Mm) (nc ns : Nat) : Run sa E MC MS HX Q X kL_law 1124 L st M nc ns = bk sa E MC MS HX (Run sa E MC MS HX Q X kL_law) Q X kL_law_1124 L st M nc ns := Run_eq sa E MC MS HX Q X _ _ _ _ _ _ _
theorem rL_law_1141 (sa : Nat → Nat) (E : Nat → Sem) (MC MS : Nat) (HX : Nat → Nat → Option Nat) (Q : Option Value → Mm → Prop) (X : Nat → Mm → Prop) (L : List Slot) (st : List Value) (M : Mm) (nc ns : Nat) : Run sa E MC MS HX Q X kL_law 1141 L st M nc ns = bk sa E MC MS HX (Run sa E MC MS HX Q X kL_law) Q X kL_law_1141 L st M nc ns := Run_eq sa E MC MS HX Q X _ _ _ _ _ _ _
theorem rL_law_1144 (sa : Nat → Nat) (E : Nat → Sem) (MC MS : Nat) (HX : Nat → Nat → Option Nat) (Q : Option Value → Mm → Prop) (X : Nat → Mm → Prop) (L : List Slot) (st : List Value) (M : Mm) (nc ns : Nat) : Run sa E MC MS HX Q X kL_law 1144 L st M nc ns = bk sa E MC MS HX (Run sa E MC MS HX Q X kL_law) Q X kL_law_1144 L st M nc ns := Run_eq sa E MC MS HX Q X _ _ _ _ _ _ _
theorem rL_law_1192 (sa : Nat → Nat) (E : Nat → Sem) (MC MS : Nat) (HX : Nat → Nat → Option Nat) (Q : Option Value → Mm → Prop) (X : Nat → Mm → Prop) (L : List Slot) (st : List Value) (M : Mm) (nc ns : Nat) : Run sa E MC MS HX Q X kL_law 1192 L st M nc ns = bk sa E MC MS HX (Run sa E MC MS HX Q X kL_law) Q X kL_law_1192 L st M nc ns := Run_eq sa E MC MS HX Q X _ _ _ _ _ _ _
theorem rL_law_1209 (sa : Nat → Nat) (E : Nat → Sem) (MC MS : Nat) (HX : Nat → Nat → Option Nat) (Q : Option Value → Mm → Prop) (X : Nat → Mm → Prop) (L : List Slot) (st : List Value) (M : Mm) (nc ns : Nat) : Run sa E MC MS HX Q X kL_law 1209 L st M nc ns = bk sa E MC MS HX (Run sa E MC MS HX Q X kL_law) Q X kL_law_1209 L st M nc ns := Run_eq sa E MC MS HX Q X _ _ _ _ _ _ _
theorem rL_law_1212 (sa : Nat → Nat) (E : Nat → Sem) (MC MS : Nat) (HX : Nat → Nat → Option Nat) (Q : Option Value → Mm → Prop) (X : Nat → Mm → Prop) (L : List Slot) (st : List Value) (M : Mm) (nc ns : Nat) : Run sa E MC MS HX Q X kL_law 1212 L st M nc ns = bk sa E MC MS HX (Run sa E MC MS HX Q X kL_law) Q X kL_law_1212 L st M nc ns := Run_eq sa E MC MS HX Q X _ _ _ _ _ _ _
theorem rL_law_1260 (sa : Nat → Nat) (E : Nat → Sem) (MC MS : Nat) (HX : Nat → Nat → Option Nat) (Q : Option Value → Mm → Prop) (X : Nat → Mm → Prop) (L : List Slot) (st : List Value) (M : Mm) (nc ns : Nat) : Run sa E MC MS HX Q X kL_law 1260 L st M nc ns = bk sa E MC MS HX (Run sa E MC MS HX Q X kL_law) Q X kL_law_1260 L st M nc ns := Run_eq sa E MC MS HX Q X _ _ _ _ _ _ _
theorem rL_law_1277 (sa : Nat → Nat) (E : Nat → Sem) (MC MS : Nat) (HX : Nat → Nat → Option Nat) (Q : Option Value → Mm → Prop) (X : Nat → Mm → Prop) (L : List Slot) (st : List Value) (M : Mm) (nc ns : Nat) : Run sa E MC MS HX Q X kL_law 1277 L st M nc ns = bk sa E MC MS HX (Run sa E MC MS HX Q X kL_law) Q X kL_law_1277 L st M nc ns := Run_eq sa E MC MS HX Q X _ _ _ _ _ _ _
theorem rL_law_1280 (sa : Nat → Nat) (E : Nat → Sem) (MC MS : Nat) (HX : Nat → Nat → Option Nat) (Q : Option Value → Mm → Prop) (X : Nat → Mm → Prop) (L : List Slot) (st : List Value) (M : Mm) (nc ns : Nat) : Run sa E MC MS HX Q X kL_law 1280 L st M nc ns = bk sa E MC MS HX (Run sa E MC MS HX Q X kL_law) Q X kL_law_1280 L st M nc ns := Run_eq sa E MC MS HX Q X _ _ _ _ _ _ _
theorem rL_law_1340 (sa : Nat → Nat) (E : Nat → Sem) (MC MS : Nat) (HX : Nat → Nat → Option Nat) (Q : Option Value → Mm → Prop) (X : Nat → Mm → Prop) (L : List Slot) (st : List Value) (M : Mm) (nc ns : Nat) : Run sa E MC MS HX Q X kL_law 1340 L st M nc ns = bk sa E MC MS HX (Run sa E MC MS HX Q X kL_law) Q X kL_law_1340 L st M nc ns := Run_eq sa E MC MS HX Q X _ _ _ _ _ _ _
theorem rL_law_1357 (sa : Nat → Nat) (E : Nat → Sem) (MC MS : Nat) (HX : Nat → Nat → Option Nat) (Q : Option Value → Mm → Prop) (X : Nat → Mm → Prop) (L : List Slot) (st : List Value) (M : Mm) (nc ns : Nat) : Run sa E MC MS HX Q X kL_law 1357 L st M nc ns = bk sa E MC MS HX (Run sa E MC MS HX Q X kL_law) Q X kL_law_1357 L st M nc ns := Run_eq sa E MC MS HX Q X _ _ _ _ _ _ _
theorem rL_law_1360 (sa : Nat → Nat) (E : Nat → Sem) (MC MS : Nat) (HX : Nat → Nat → Option Nat) (Q : Option Value → Mm → Prop) (X : Nat → Mm → Prop) (L : List Slot) (st : List Value) (M : Mm) (nc ns : Nat) : Run sa E MC MS HX Q X kL_law 1360 L st M nc ns = bk sa E MC MS HX (Run sa E MC MS HX Q X kL_law) Q X kL_law_1360 L st M nc ns := Run_eq sa E MC MS HX Q X _ _ _ _ _ _ _
theorem rL_law_1396 (sa : Nat → Nat) (E : Nat → Sem) (MC MS : Nat) (HX : Nat → Nat → Option Nat) (Q : Option Value → Mm → Prop) (X : Nat → Mm → Prop) (L : List Slot) (st : List Value) (M : Mm) (nc ns : Nat) : Run sa E MC MS HX Q X kL_law 1396 L st M nc ns = bk sa E MC MS HX (Run sa E MC MS HX Q X kL_law) Q X kL_law_1396 L st M nc ns := Run_eq sa E MC MS HX Q X _ _ _ _ _ _ _
theorem rL_law_1413 (sa : Nat → Nat) (E : Nat → Sem) (MC MS : Nat) (HX : Nat → Nat → Option Nat) (Q : Option Value → Mm → Prop) (X : Nat → Mm → Prop) (L : List Slot) (st : List Value) (M : Mm) (nc ns : Nat) : Run sa E MC MS HX Q X kL_law 1413 L st M nc ns = bk sa E MC MS HX (Run sa E MC MS HX Q X kL_law) Q X kL_law_1413 L st M nc ns := Run_eq sa E MC MS HX Q X _ _ _ _ _ _ _
theorem rL_law_1416 (sa : Nat → Nat) (E : Nat → Sem) (MC MS : Nat) (HX : Nat → Nat → Option Nat) (Q : Option Value → Mm → Prop) (X : Nat → Mm → Prop) (L : List Slot) (st : List Value) (M : Mm) (nc ns : Nat) : Run sa E MC MS HX Q X kL_law 1416 L st M nc ns = bk sa E MC MS HX (Run sa E MC MS HX Q X kL_law) Q X kL_law_1416 L st M nc ns := Run_eq sa E MC MS HX Q X _ _ _ _ _ _ _
theorem rL_law_1452 (sa : Nat → Nat) (E : Nat → Sem) (MC MS : Nat) (HX : Nat → Nat → Option Nat) (Q : Option Value → Mm → Prop) (X : Nat → Mm → Prop) (L : List Slot) (st : List Value) (M : Mm) (nc ns : Nat) : Run sa E MC MS HX Q X kL_law 1452 L st M nc ns = bk sa E MC MS HX (Run sa E MC MS HX Q X kL_law) Q X kL_law_1452 L st M nc ns := Run_eq sa E MC MS HX Q X _ _ _ _ _ _ _
theorem rL_law_1469 (sa : Nat → Nat) (E : Nat → Sem) (MC MS : Nat) (HX : Nat → Nat → Option Nat) (Q : Option Value → Mm → Prop) (X : Nat → Mm → Prop) (L : List Slot) (st : List Value) (M : Mm) (nc ns : Nat) : Run sa E MC MS HX Q X kL_law 1469 L st M nc ns = bk sa E MC MS HX (Run sa E MC MS HX Q X kL_law) Q X kL_law_1469 L st M nc ns := Run_eq sa E MC MS HX Q X _ _ _ _ _ _ _
theorem rL_law_1472 (sa : Nat → Nat) (E : Nat → Sem) (MC MS : Nat) (HX : Nat → Nat → Option Nat) (Q : Option Value → Mm → Prop) (X : Nat → Mm → Prop) (L : List Slot) (st : List Value) (M : Mm) (nc ns : Nat) : Run sa E MC MS HX Q X kL_law 1472 L st M nc ns = bk sa E MC MS HX (Run sa E MC MS HX Q X kL_law) Q X kL_law_1472 L st M nc ns := Run_eq sa E MC MS HX Q X _ _ _ _ _ _ _
theorem rL_law_1520 (sa : Nat → Nat) (E : Nat → Sem) (MC MS : Nat) (HX : Nat → Nat → Option Nat) (Q : Option Value → Mm → Prop) (X : Nat → Mm → Prop) (L : List Slot) (st : List Value) (M : Mm) (nc ns : Nat) : Run sa E MC MS HX Q X kL_law 1520 L st M nc ns = bk sa E MC MS HX (Run sa E MC MS HX Q X kL_law) Q X kL_law_1520 L st M nc ns := Run_eq sa E MC MS HX Q X _ _ _ _ _ _ _
theorem rL_law_1537 (sa : Nat → Nat) (E : Nat → Sem) (MC MS : Nat) (HX : Nat → Nat → Option Nat) (Q : Option Value → Mm → Prop) (X : Nat → Mm → Prop) (L : List Slot) (st : List Value) (M : Mm) (nc ns : Nat) : Run sa E MC MS HX Q X kL_law 1537 L st M nc ns = bk sa E MC MS HX (Run sa E MC MS HX Q X kL_law) Q X kL_law_1537 L st M nc ns := Run_eq sa E MC MS HX Q X _ _ _ _ _ _ _
theorem rL_law_1540 (sa : Nat → Nat) (E : Nat → Sem) (MC MS : Nat) (HX : Nat → Nat → Option Nat) (Q : Option Value → Mm → Prop) (X : Nat → Mm → Prop) (L : List Slot) (st : List Value) (M : Mm) (nc ns : Nat) : Run sa E MC MS HX Q X kL_law 1540 L st M nc ns = bk sa E MC MS HX (Run sa E MC MS HX Q X kL_law) Q X kL_law_1540 L st M nc ns := Run_eq sa E MC MS HX Q X _ _ _ _ _ _ _
theorem rL_law_1553 (sa : Nat → Nat) (E : Nat → Sem) (MC MS : Nat) (HX : Nat → Nat → Option Nat) (Q : Option Value → Mm → Prop) (X : Nat → Mm → Prop) (L : List Slot) (st : List Value) (M : Mm) (nc ns : Nat) : Run sa E MC MS HX Q X kL_law 1553 L st M nc ns = bk sa E MC MS HX (Run sa E MC MS HX Q X kL_law) Q X kL_law_1553 L st M nc ns := Run_eq sa E MC MS HX Q X _ _ _ _ _ _ _
theorem rL_law_1567 (sa : Nat → Nat) (E : Nat → Sem) (MC MS : Nat) (HX : Nat → Nat → Option Nat) (Q : Option Value → Mm → Prop) (X : Nat → Mm → Prop) (L : List Slot) (st : List Value) (M : Mm) (nc ns : Nat) : Run sa E MC MS HX Q X kL_law 1567 L st M nc ns = bk sa E MC MS HX (Run sa E MC MS HX Q X kL_law) Q X kL_law_1567 L st M nc ns := Run_eq sa E MC MS HX Q X _ _ _ _ _ _ _
theorem rL_law_1573 (sa : Nat → Nat) (E : Nat → Sem) (MC MS : Nat) (HX : Nat → Nat → Option Nat) (Q : Option Value → Mm → Prop) (X : Nat → Mm → Prop) (L : List Slot) (st : List Value) (M : Mm) (nc ns : Nat) : Run sa E MC MS HX Q X kL_law 1573 L st M nc ns = bk sa E MC MS HX (Run sa E MC MS HX Q X kL_law) Q X kL_law_1573 L st M nc ns := Run_eq sa E MC MS HX Q X _ _ _ _ _ _ _
def kL_load_0 : List Item := [(0, .aload_n 2, 1, 3, 2, 0, 0, 0, [], .null),
    (1, .iconst 0, 1, 0, 0, 0, 0, 0, [], .int 0),
    (2, .aload_n 0, 1, 3, 0, 0, 0, 0, [], .null),
    (3, .iload_n 1, 1, 1, 1, 0, 0, 0, [], .null),
    (4, .invokevirtual 7, 3, 48, 95, 2, 1, 6, [10], .null),
    (7, .i2l, 1, 12, 0, 0, 0, 0, [], .null),
    (8, .lastore, 1, 36, 0, 0, 0, 0, [], .null),
    (9, .goto 6, 3, 22, 15, 0, 0, 0, [], .null)]
def kL_load_12 : List Item := [(12, .astore_n 3, 1, 5, 3, 0, 0, 0, [], .null),
    (13, .iconst 1, 1, 0, 0, 0, 0, 0, [], .int 1),
    (14, .ireturn, 1, 56, 0, 0, 0, 0, [], .null)]
def kL_load_15 : List Item := [(15, .iconst 0, 1, 0, 0, 0, 0, 0, [], .int 0),
    (16, .ireturn, 1, 56, 0, 0, 0, 0, [], .null)]
def kL_load : Code9 := [(0, kL_load_0), (12, kL_load_12), (15, kL_load_15)]
theorem rL_load_0 (sa : Nat → Nat) (E : Nat → Sem) (MC MS : Nat) (HX : Nat → Nat → Option Nat) (Q : Option Value → Mm → Prop) (X : Nat → Mm → Prop) (L : List Slot) (st : List Value) (M : Mm) (nc ns : Nat) : Run sa E MC MS HX Q X kL_load 0 L st M nc ns = bk sa E MC MS HX (Run sa E MC MS HX Q X kL_load) Q X kL_load_0 L st M nc ns := Run_eq sa E MC MS HX Q X _ _ _ _ _ _ _
theorem rL_load_12 (sa : Nat → Nat) (E : Nat → Sem) (MC MS : Nat) (HX : Nat → Nat → Option Nat) (Q : Option Value → Mm → Prop) (X : Nat → Mm → Prop) (L : List Slot) (st : List Value) (M : Mm) (nc ns : Nat) : Run sa E MC MS HX Q X kL_load 12 L st M nc ns = bk sa E MC MS HX (Run sa E MC MS HX Q X kL_load) Q X kL_load_12 L st M nc ns := Run_eq sa E MC MS HX Q X _ _ _ _ _ _ _
theorem rL_load_15 (sa : Nat → Nat) (E : Nat → Sem) (MC MS : Nat) (HX : Nat → Nat → Option Nat) (Q : Option Value → Mm → Prop) (X : Nat → Mm → Prop) (L : List Slot) (st : List Value) (M : Mm) (nc ns : Nat) : Run sa E MC MS HX Q X kL_load 15 L st M nc ns = bk sa E MC MS HX (Run sa E MC MS HX Q X kL_load) Q X kL_load_15 L st M nc ns := Run_eq sa E MC MS HX Q X _ _ _ _ _ _ _
def kL_parent_0 : List Item := [(0, .aload_n 2, 1, 3, 2, 0, 0, 0, [], .null),
    (1, .iconst 0, 1, 0, 0, 0, 0, 0, [], .int 0),
    (2, .aload_n 0, 1, 3, 0, 0, 0, 0, [], .null),
    (3, .iload_n 1, 1, 1, 1, 0, 0, 0, [], .null),
    (4, .invokevirtual 21, 3, 48, 96, 2, 1, 6, [10], .null),
    (7, .i2l, 1, 12, 0, 0, 0, 0, [], .null),
    (8, .lastore, 1, 36, 0, 0, 0, 0, [], .null),
    (9, .goto 6, 3, 22, 15, 0, 0, 0, [], .null)]
def kL_parent_12 : List Item := [(12, .astore_n 3, 1, 5, 3, 0, 0, 0, [], .null),
    (13, .iconst 1, 1, 0, 0, 0, 0, 0, [], .int 1),
    (14, .ireturn, 1, 56, 0, 0, 0, 0, [], .null)]
def kL_parent_15 : List Item := [(15, .iconst 0, 1, 0, 0, 0, 0, 0, [], .int 0),
    (16, .ireturn, 1, 56, 0, 0, 0, 0, [], .null)]
def kL_parent : Code9 := [(0, kL_parent_0), (12, kL_parent_12), (15, kL_parent_15)]
theorem rL_parent_0 (sa : Nat → Nat) (E : Nat → Sem) (MC MS : Nat) (HX : Nat → Nat → Option Nat) (Q : Option Value → Mm → Prop) (X : Nat → Mm → Prop) (L : List Slot) (st : List Value) (M : Mm) (nc ns : Nat) : Run sa E MC MS HX Q X kL_parent 0 L st M nc ns = bk sa E MC MS HX (Run sa E MC MS HX Q X kL_parent) Q X kL_parent_0 L st M nc ns := Run_eq sa E MC MS HX Q X _ _ _ _ _ _ _
theorem rL_parent_12 (sa : Nat → Nat) (E : Nat → Sem) (MC MS : Nat) (HX : Nat → Nat → Option Nat) (Q : Option Value → Mm → Prop) (X : Nat → Mm → Prop) (L : List Slot) (st : List Value) (M : Mm) (nc ns : Nat) : Run sa E MC MS HX Q X kL_parent 12 L st M nc ns = bk sa E MC MS HX (Run sa E MC MS HX Q X kL_parent) Q X kL_parent_12 L st M nc ns := Run_eq sa E MC MS HX Q X _ _ _ _ _ _ _
theorem rL_parent_15 (sa : Nat → Nat) (E : Nat → Sem) (MC MS : Nat) (HX : Nat → Nat → Option Nat) (Q : Option Value → Mm → Prop) (X : Nat → Mm → Prop) (L : List Slot) (st : List Value) (M : Mm) (nc ns : Nat) : Run sa E MC MS HX Q X kL_parent 15 L st M nc ns = bk sa E MC MS HX (Run sa E MC MS HX Q X kL_parent) Q X kL_parent_15 L st M nc ns := Run_eq sa E MC MS HX Q X _ _ _ _ _ _ _
def kL_run_0 : List Item := [(0, .aload_n 2, 1, 3, 2, 0, 0, 0, [], .null),
    (1, .iconst 0, 1, 0, 0, 0, 0, 0, [], .int 0),
    (2, .aload_n 0, 1, 3, 0, 0, 0, 0, [], .null),
    (3, .iload_n 1, 1, 1, 1, 0, 0, 0, [], .null),
    (4, .invokevirtual 69, 3, 48, 99, 2, 2, 12, [10], .null),
    (7, .i2l, 1, 12, 0, 0, 0, 0, [], .null),
    (8, .lastore, 1, 36, 0, 0, 0, 0, [], .null),
    (9, .goto 9, 3, 22, 18, 0, 0, 0, [], .null)]
def kL_run_12 : List Item := [(12, .astore_n 3, 1, 5, 3, 0, 0, 0, [], .null),
    (13, .iconst 1, 1, 0, 0, 0, 0, 0, [], .int 1),
    (14, .ireturn, 1, 56, 0, 0, 0, 0, [], .null)]
def kL_run_15 : List Item := [(15, .astore_n 3, 1, 5, 3, 0, 0, 0, [], .null),
    (16, .iconst 2, 1, 0, 0, 0, 0, 0, [], .int 2),
    (17, .ireturn, 1, 56, 0, 0, 0, 0, [], .null)]
def kL_run_18 : List Item := [(18, .iconst 0, 1, 0, 0, 0, 0, 0, [], .int 0),
    (19, .ireturn, 1, 56, 0, 0, 0, 0, [], .null)]
def kL_run : Code9 := [(0, kL_run_0), (12, kL_run_12), (15, kL_run_15), (18, kL_run_18)]
theorem rL_run_0 (sa : Nat → Nat) (E : Nat → Sem) (MC MS : Nat) (HX : Nat → Nat → Option Nat) (Q : Option Value → Mm → Prop) (X : Nat → Mm → Prop) (L : List Slot) (st : List Value) (M : Mm) (nc ns : Nat) : Run sa E MC MS HX Q X kL_run 0 L st M nc ns = bk sa E MC MS HX (Run sa E MC MS HX Q X kL_run) Q X kL_run_0 L st M nc ns := Run_eq sa E MC MS HX Q X _ _ _ _ _ _ _
theorem rL_run_12 (sa : Nat → Nat) (E : Nat → Sem) (MC MS : Nat) (HX : Nat → Nat → Option Nat) (Q : Option Value → Mm → Prop) (X : Nat → Mm → Prop) (L : List Slot) (st : List Value) (M : Mm) (nc ns : Nat) : Run sa E MC MS HX Q X kL_run 12 L st M nc ns = bk sa E MC MS HX (Run sa E MC MS HX Q X kL_run) Q X kL_run_12 L st M nc ns := Run_eq sa E MC MS HX Q X _ _ _ _ _ _ _
theorem rL_run_15 (sa : Nat → Nat) (E : Nat → Sem) (MC MS : Nat) (HX : Nat → Nat → Option Nat) (Q : Option Value → Mm → Prop) (X : Nat → Mm → Prop) (L : List Slot) (st : List Value) (M : Mm) (nc ns : Nat) : Run sa E MC MS HX Q X kL_run 15 L st M nc ns = bk sa E MC MS HX (Run sa E MC MS HX Q X kL_run) Q X kL_run_15 L st M nc ns := Run_eq sa E MC MS HX Q X _ _ _ _ _ _ _
theorem rL_run_18 (sa : Nat → Nat) (E : Nat → Sem) (MC MS : Nat) (HX : Nat → Nat → Option Nat) (Q : Option Value → Mm → Prop) (X : Nat → Mm → Prop) (L : List Slot) (st : List Value) (M : Mm) (nc ns : Nat) : Run sa E MC MS HX Q X kL_run 18 L st M nc ns = bk sa E MC MS HX (Run sa E MC MS HX Q X kL_run) Q X kL_run_18 L st M nc ns := Run_eq sa E MC MS HX Q X _ _ _ _ _ _ _
def kL_stolen_0 : List Item := [(0, .aload_n 2, 1, 3, 2, 0, 0, 0, [], .null),
    (1, .iconst 0, 1, 0, 0, 0, 0, 0, [], .int 0),
    (2, .aload_n 0, 1, 3, 0, 0, 0, 0, [], .null),
    (3, .iload_n 1, 1, 1, 1, 0, 0, 0, [], .null),
    (4, .invokevirtual 46, 3, 48, 100, 2, 1, 6, [10], .null),
    (7, .i2l, 1, 12, 0, 0, 0, 0, [], .null),
    (8, .lastore, 1, 36, 0, 0, 0, 0, [], .null),
    (9, .goto 6, 3, 22, 15, 0, 0, 0, [], .null)]
def kL_stolen_12 : List Item := [(12, .astore_n 3, 1, 5, 3, 0, 0, 0, [], .null),
    (13, .iconst 1, 1, 0, 0, 0, 0, 0, [], .int 1),
    (14, .ireturn, 1, 56, 0, 0, 0, 0, [], .null)]
def kL_stolen_15 : List Item := [(15, .iconst 0, 1, 0, 0, 0, 0, 0, [], .int 0),
    (16, .ireturn, 1, 56, 0, 0, 0, 0, [], .null)]
def kL_stolen : Code9 := [(0, kL_stolen_0), (12, kL_stolen_12), (15, kL_stolen_15)]
theorem rL_stolen_0 (sa : Nat → Nat) (E : Nat → Sem) (MC MS : Nat) (HX : Nat → Nat → Option Nat) (Q : Option Value → Mm → Prop) (X : Nat → Mm → Prop) (L : List Slot) (st : List Value) (M : Mm) (nc ns : Nat) : Run sa E MC MS HX Q X kL_stolen 0 L st M nc ns = bk sa E MC MS HX (Run sa E MC MS HX Q X kL_stolen) Q X kL_stolen_0 L st M nc ns := Run_eq sa E MC MS HX Q X _ _ _ _ _ _ _
theorem rL_stolen_12 (sa : Nat → Nat) (E : Nat → Sem) (MC MS : Nat) (HX : Nat → Nat → Option Nat) (Q : Option Value → Mm → Prop) (X : Nat → Mm → Prop) (L : List Slot) (st : List Value) (M : Mm) (nc ns : Nat) : Run sa E MC MS HX Q X kL_stolen 12 L st M nc ns = bk sa E MC MS HX (Run sa E MC MS HX Q X kL_stolen) Q X kL_stolen_12 L st M nc ns := Run_eq sa E MC MS HX Q X _ _ _ _ _ _ _
theorem rL_stolen_15 (sa : Nat → Nat) (E : Nat → Sem) (MC MS : Nat) (HX : Nat → Nat → Option Nat) (Q : Option Value → Mm → Prop) (X : Nat → Mm → Prop) (L : List Slot) (st : List Value) (M : Mm) (nc ns : Nat) : Run sa E MC MS HX Q X kL_stolen 15 L st M nc ns = bk sa E MC MS HX (Run sa E MC MS HX Q X kL_stolen) Q X kL_stolen_15 L st M nc ns := Run_eq sa E MC MS HX Q X _ _ _ _ _ _ _
def kL_suspect_0 : List Item := [(0, .aload 4, 2, 3, 4, 0, 0, 0, [], .null),
    (2, .iconst 0, 1, 0, 0, 0, 0, 0, [], .int 0),
    (3, .aload_n 0, 1, 3, 0, 0, 0, 0, [], .null),
    (4, .iload_n 1, 1, 1, 1, 0, 0, 0, [], .null),
    (5, .iload_n 2, 1, 1, 2, 0, 0, 0, [], .null),
    (6, .iload_n 3, 1, 1, 3, 0, 0, 0, [], .null),
    (7, .invokevirtual 65, 3, 48, 101, 4, 2, 12, [10], .null),
    (10, .i2l, 1, 12, 0, 0, 0, 0, [], .null),
    (11, .lastore, 1, 36, 0, 0, 0, 0, [], .null),
    (12, .goto 11, 3, 22, 23, 0, 0, 0, [], .null)]
def kL_suspect_15 : List Item := [(15, .astore 5, 2, 5, 5, 0, 0, 0, [], .null),
    (17, .iconst 1, 1, 0, 0, 0, 0, 0, [], .int 1),
    (18, .ireturn, 1, 56, 0, 0, 0, 0, [], .null)]
def kL_suspect_19 : List Item := [(19, .astore 5, 2, 5, 5, 0, 0, 0, [], .null),
    (21, .iconst 2, 1, 0, 0, 0, 0, 0, [], .int 2),
    (22, .ireturn, 1, 56, 0, 0, 0, 0, [], .null)]
def kL_suspect_23 : List Item := [(23, .iconst 0, 1, 0, 0, 0, 0, 0, [], .int 0),
    (24, .ireturn, 1, 56, 0, 0, 0, 0, [], .null)]
def kL_suspect : Code9 := [(0, kL_suspect_0), (15, kL_suspect_15), (19, kL_suspect_19), (23, kL_suspect_23)]
theorem rL_suspect_0 (sa : Nat → Nat) (E : Nat → Sem) (MC MS : Nat) (HX : Nat → Nat → Option Nat) (Q : Option Value → Mm → Prop) (X : Nat → Mm → Prop) (L : List Slot) (st : List Value) (M : Mm) (nc ns : Nat) : Run sa E MC MS HX Q X kL_suspect 0 L st M nc ns = bk sa E MC MS HX (Run sa E MC MS HX Q X kL_suspect) Q X kL_suspect_0 L st M nc ns := Run_eq sa E MC MS HX Q X _ _ _ _ _ _ _
theorem rL_suspect_15 (sa : Nat → Nat) (E : Nat → Sem) (MC MS : Nat) (HX : Nat → Nat → Option Nat) (Q : Option Value → Mm → Prop) (X : Nat → Mm → Prop) (L : List Slot) (st : List Value) (M : Mm) (nc ns : Nat) : Run sa E MC MS HX Q X kL_suspect 15 L st M nc ns = bk sa E MC MS HX (Run sa E MC MS HX Q X kL_suspect) Q X kL_suspect_15 L st M nc ns := Run_eq sa E MC MS HX Q X _ _ _ _ _ _ _
theorem rL_suspect_19 (sa : Nat → Nat) (E : Nat → Sem) (MC MS : Nat) (HX : Nat → Nat → Option Nat) (Q : Option Value → Mm → Prop) (X : Nat → Mm → Prop) (L : List Slot) (st : List Value) (M : Mm) (nc ns : Nat) : Run sa E MC MS HX Q X kL_suspect 19 L st M nc ns = bk sa E MC MS HX (Run sa E MC MS HX Q X kL_suspect) Q X kL_suspect_19 L st M nc ns := Run_eq sa E MC MS HX Q X _ _ _ _ _ _ _
theorem rL_suspect_23 (sa : Nat → Nat) (E : Nat → Sem) (MC MS : Nat) (HX : Nat → Nat → Option Nat) (Q : Option Value → Mm → Prop) (X : Nat → Mm → Prop) (L : List Slot) (st : List Value) (M : Mm) (nc ns : Nat) : Run sa E MC MS HX Q X kL_suspect 23 L st M nc ns = bk sa E MC MS HX (Run sa E MC MS HX Q X kL_suspect) Q X kL_suspect_23 L st M nc ns := Run_eq sa E MC MS HX Q X _ _ _ _ _ _ _
def kL_swapTurns_0 : List Item := [(0, .aload_n 3, 1, 3, 3, 0, 0, 0, [], .null),
    (1, .iconst 0, 1, 0, 0, 0, 0, 0, [], .int 0),
    (2, .aload_n 0, 1, 3, 0, 0, 0, 0, [], .null),
    (3, .iload_n 1, 1, 1, 1, 0, 0, 0, [], .null),
    (4, .iload_n 2, 1, 1, 2, 0, 0, 0, [], .null),
    (5, .invokevirtual 77, 3, 48, 102, 3, 2, 12, [10], .null),
    (8, .i2l, 1, 12, 0, 0, 0, 0, [], .null),
    (9, .lastore, 1, 36, 0, 0, 0, 0, [], .null),
    (10, .goto 7, 3, 22, 17, 0, 0, 0, [], .null)]
def kL_swapTurns_13 : List Item := [(13, .astore 4, 2, 5, 4, 0, 0, 0, [], .null),
    (15, .iconst 1, 1, 0, 0, 0, 0, 0, [], .int 1),
    (16, .ireturn, 1, 56, 0, 0, 0, 0, [], .null)]
def kL_swapTurns_17 : List Item := [(17, .iconst 0, 1, 0, 0, 0, 0, 0, [], .int 0),
    (18, .ireturn, 1, 56, 0, 0, 0, 0, [], .null)]
def kL_swapTurns : Code9 := [(0, kL_swapTurns_0), (13, kL_swapTurns_13), (17, kL_swapTurns_17)]
theorem rL_swapTurns_0 (sa : Nat → Nat) (E : Nat → Sem) (MC MS : Nat) (HX : Nat → Nat → Option Nat) (Q : Option Value → Mm → Prop) (X : Nat → Mm → Prop) (L : List Slot) (st : List Value) (M : Mm) (nc ns : Nat) : Run sa E MC MS HX Q X kL_swapTurns 0 L st M nc ns = bk sa E MC MS HX (Run sa E MC MS HX Q X kL_swapTurns) Q X kL_swapTurns_0 L st M nc ns := Run_eq sa E MC MS HX Q X _ _ _ _ _ _ _
theorem rL_swapTurns_13 (sa : Nat → Nat) (E : Nat → Sem) (MC MS : Nat) (HX : Nat → Nat → Option Nat) (Q : Option Value → Mm → Prop) (X : Nat → Mm → Prop) (L : List Slot) (st : List Value) (M : Mm) (nc ns : Nat) : Run sa E MC MS HX Q X kL_swapTurns 13 L st M nc ns = bk sa E MC MS HX (Run sa E MC MS HX Q X kL_swapTurns) Q X kL_swapTurns_13 L st M nc ns := Run_eq sa E MC MS HX Q X _ _ _ _ _ _ _
theorem rL_swapTurns_17 (sa : Nat → Nat) (E : Nat → Sem) (MC MS : Nat) (HX : Nat → Nat → Option Nat) (Q : Option Value → Mm → Prop) (X : Nat → Mm → Prop) (L : List Slot) (st : List Value) (M : Mm) (nc ns : Nat) : Run sa E MC MS HX Q X kL_swapTurns 17 L st M nc ns = bk sa E MC MS HX (Run sa E MC MS HX Q X kL_swapTurns) Q X kL_swapTurns_17 L st M nc ns := Run_eq sa E MC MS HX Q X _ _ _ _ _ _ _
def kL_taken_0 : List Item := [(0, .aload_n 2, 1, 3, 2, 0, 0, 0, [], .null),
    (1, .iconst 0, 1, 0, 0, 0, 0, 0, [], .int 0),
    (2, .aload_n 0, 1, 3, 0, 0, 0, 0, [], .null),
    (3, .iload_n 1, 1, 1, 1, 0, 0, 0, [], .null),
    (4, .invokevirtual 43, 3, 48, 103, 2, 1, 6, [10], .null),
    (7, .i2l, 1, 12, 0, 0, 0, 0, [], .null),
    (8, .lastore, 1, 36, 0, 0, 0, 0, [], .null),
    (9, .goto 6, 3, 22, 15, 0, 0, 0, [], .null)]
def kL_taken_12 : List Item := [(12, .astore_n 3, 1, 5, 3, 0, 0, 0, [], .null),
    (13, .iconst 1, 1, 0, 0, 0, 0, 0, [], .int 1),
    (14, .ireturn, 1, 56, 0, 0, 0, 0, [], .null)]
def kL_taken_15 : List Item := [(15, .iconst 0, 1, 0, 0, 0, 0, 0, [], .int 0),
    (16, .ireturn, 1, 56, 0, 0, 0, 0, [], .null)]
def kL_taken : Code9 := [(0, kL_taken_0), (12, kL_taken_12), (15, kL_taken_15)]
theorem rL_taken_0 (sa : Nat → Nat) (E : Nat → Sem) (MC MS : Nat) (HX : Nat → Nat → Option Nat) (Q : Option Value → Mm → Prop) (X : Nat → Mm → Prop) (L : List Slot) (st : List Value) (M : Mm) (nc ns : Nat) : Run sa E MC MS HX Q X kL_taken 0 L st M nc ns = bk sa E MC MS HX (Run sa E MC MS HX Q X kL_taken) Q X kL_taken_0 L st M nc ns := Run_eq sa E MC MS HX Q X _ _ _ _ _ _ _
theorem rL_taken_12 (sa : Nat → Nat) (E : Nat → Sem) (MC MS : Nat) (HX : Nat → Nat → Option Nat) (Q : Option Value → Mm → Prop) (X : Nat → Mm → Prop) (L : List Slot) (st : List Value) (M : Mm) (nc ns : Nat) : Run sa E MC MS HX Q X kL_taken 12 L st M nc ns = bk sa E MC MS HX (Run sa E MC MS HX Q X kL_taken) Q X kL_taken_12 L st M nc ns := Run_eq sa E MC MS HX Q X _ _ _ _ _ _ _
theorem rL_taken_15 (sa : Nat → Nat) (E : Nat → Sem) (MC MS : Nat) (HX : Nat → Nat → Option Nat) (Q : Option Value → Mm → Prop) (X : Nat → Mm → Prop) (L : List Slot) (st : List Value) (M : Mm) (nc ns : Nat) : Run sa E MC MS HX Q X kL_taken 15 L st M nc ns = bk sa E MC MS HX (Run sa E MC MS HX Q X kL_taken) Q X kL_taken_15 L st M nc ns := Run_eq sa E MC MS HX Q X _ _ _ _ _ _ _
def kL_total_0 : List Item := [(0, .aload_n 2, 1, 3, 2, 0, 0, 0, [], .null),
    (1, .iconst 0, 1, 0, 0, 0, 0, 0, [], .int 0),
    (2, .aload_n 0, 1, 3, 0, 0, 0, 0, [], .null),
    (3, .iload_n 1, 1, 1, 1, 0, 0, 0, [], .null),
    (4, .invokevirtual 52, 3, 48, 104, 2, 1, 6, [10], .null),
    (7, .lastore, 1, 36, 0, 0, 0, 0, [], .null),
    (8, .goto 6, 3, 22, 14, 0, 0, 0, [], .null)]
def kL_total_11 : List Item := [(11, .astore_n 3, 1, 5, 3, 0, 0, 0, [], .null),
    (12, .iconst 1, 1, 0, 0, 0, 0, 0, [], .int 1),
    (13, .ireturn, 1, 56, 0, 0, 0, 0, [], .null)]
def kL_total_14 : List Item := [(14, .iconst 0, 1, 0, 0, 0, 0, 0, [], .int 0),
    (15, .ireturn, 1, 56, 0, 0, 0, 0, [], .null)]
def kL_total : Code9 := [(0, kL_total_0), (11, kL_total_11), (14, kL_total_14)]
theorem rL_total_0 (sa : Nat → Nat) (E : Nat → Sem) (MC MS : Nat) (HX : Nat → Nat → Option Nat) (Q : Option Value → Mm → Prop) (X : Nat → Mm → Prop) (L : List Slot) (st : List Value) (M : Mm) (nc ns : Nat) : Run sa E MC MS HX Q X kL_total 0 L st M nc ns = bk sa E MC MS HX (Run sa E MC MS HX Q X kL_total) Q X kL_total_0 L st M nc ns := Run_eq sa E MC MS HX Q X _ _ _ _ _ _ _
theorem rL_total_11 (sa : Nat → Nat) (E : Nat → Sem) (MC MS : Nat) (HX : Nat → Nat → Option Nat) (Q : Option Value → Mm → Prop) (X : Nat → Mm → Prop) (L : List Slot) (st : List Value) (M : Mm) (nc ns : Nat) : Run sa E MC MS HX Q X kL_total 11 L st M nc ns = bk sa E MC MS HX (Run sa E MC MS HX Q X kL_total) Q X kL_total_11 L st M nc ns := Run_eq sa E MC MS HX Q X _ _ _ _ _ _ _
theorem rL_total_14 (sa : Nat → Nat) (E : Nat → Sem) (MC MS : Nat) (HX : Nat → Nat → Option Nat) (Q : Option Value → Mm → Prop) (X : Nat → Mm → Prop) (L : List Slot) (st : List Value) (M : Mm) (nc ns : Nat) : Run sa E MC MS HX Q X kL_total 14 L st M nc ns = bk sa E MC MS HX (Run sa E MC MS HX Q X kL_total) Q X kL_total_14 L st M nc ns := Run_eq sa E MC MS HX Q X _ _ _ _ _ _ _
def kL_turnAt_0 : List Item := [(0, .aload_n 2, 1, 3, 2, 0, 0, 0, [], .null),
    (1, .iconst 0, 1, 0, 0, 0, 0, 0, [], .int 0),
    (2, .aload_n 0, 1, 3, 0, 0, 0, 0, [], .null),
    (3, .iload_n 1, 1, 1, 1, 0, 0, 0, [], .null),
    (4, .invokevirtual 15, 3, 48, 105, 2, 1, 6, [10], .null),
    (7, .i2l, 1, 12, 0, 0, 0, 0, [], .null),
    (8, .lastore, 1, 36, 0, 0, 0, 0, [], .null),
    (9, .goto 6, 3, 22, 15, 0, 0, 0, [], .null)]
def kL_turnAt_12 : List Item := [(12, .astore_n 3, 1, 5, 3, 0, 0, 0, [], .null),
    (13, .iconst 1, 1, 0, 0, 0, 0, 0, [], .int 1),
    (14, .ireturn, 1, 56, 0, 0, 0, 0, [], .null)]
def kL_turnAt_15 : List Item := [(15, .iconst 0, 1, 0, 0, 0, 0, 0, [], .int 0),
    (16, .ireturn, 1, 56, 0, 0, 0, 0, [], .null)]
def kL_turnAt : Code9 := [(0, kL_turnAt_0), (12, kL_turnAt_12), (15, kL_turnAt_15)]
theorem rL_turnAt_0 (sa : Nat → Nat) (E : Nat → Sem) (MC MS : Nat) (HX : Nat → Nat → Option Nat) (Q : Option Value → Mm → Prop) (X : Nat → Mm → Prop) (L : List Slot) (st : List Value) (M : Mm) (nc ns : Nat) : Run sa E MC MS HX Q X kL_turnAt 0 L st M nc ns = bk sa E MC MS HX (Run sa E MC MS HX Q X kL_turnAt) Q X kL_turnAt_0 L st M nc ns := Run_eq sa E MC MS HX Q X _ _ _ _ _ _ _
theorem rL_turnAt_12 (sa : Nat → Nat) (E : Nat → Sem) (MC MS : Nat) (HX : Nat → Nat → Option Nat) (Q : Option Value → Mm → Prop) (X : Nat → Mm → Prop) (L : List Slot) (st : List Value) (M : Mm) (nc ns : Nat) : Run sa E MC MS HX Q X kL_turnAt 12 L st M nc ns = bk sa E MC MS HX (Run sa E MC MS HX Q X kL_turnAt) Q X kL_turnAt_12 L st M nc ns := Run_eq sa E MC MS HX Q X _ _ _ _ _ _ _
theorem rL_turnAt_15 (sa : Nat → Nat) (E : Nat → Sem) (MC MS : Nat) (HX : Nat → Nat → Option Nat) (Q : Option Value → Mm → Prop) (X : Nat → Mm → Prop) (L : List Slot) (st : List Value) (M : Mm) (nc ns : Nat) : Run sa E MC MS HX Q X kL_turnAt 15 L st M nc ns = bk sa E MC MS HX (Run sa E MC MS HX Q X kL_turnAt) Q X kL_turnAt_15 L st M nc ns := Run_eq sa E MC MS HX Q X _ _ _ _ _ _ _
def kL_water_0 : List Item := [(0, .aload_n 2, 1, 3, 2, 0, 0, 0, [], .null),
    (1, .iconst 0, 1, 0, 0, 0, 0, 0, [], .int 0),
    (2, .aload_n 0, 1, 3, 0, 0, 0, 0, [], .null),
    (3, .iload_n 1, 1, 1, 1, 0, 0, 0, [], .null),
    (4, .invokevirtual 40, 3, 48, 107, 2, 1, 6, [10], .null),
    (7, .i2l, 1, 12, 0, 0, 0, 0, [], .null),
    (8, .lastore, 1, 36, 0, 0, 0, 0, [], .null),
    (9, .goto 6, 3, 22, 15, 0, 0, 0, [], .null)]
def kL_water_12 : List Item := [(12, .astore_n 3, 1, 5, 3, 0, 0, 0, [], .null),
    (13, .iconst 1, 1, 0, 0, 0, 0, 0, [], .int 1),
    (14, .ireturn, 1, 56, 0, 0, 0, 0, [], .null)]
def kL_water_15 : List Item := [(15, .iconst 0, 1, 0, 0, 0, 0, 0, [], .int 0),
    (16, .ireturn, 1, 56, 0, 0, 0, 0, [], .null)]
def kL_water : Code9 := [(0, kL_water_0), (12, kL_water_12), (15, kL_water_15)]
theorem rL_water_0 (sa : Nat → Nat) (E : Nat → Sem) (MC MS : Nat) (HX : Nat → Nat → Option Nat) (Q : Option Value → Mm → Prop) (X : Nat → Mm → Prop) (L : List Slot) (st : List Value) (M : Mm) (nc ns : Nat) : Run sa E MC MS HX Q X kL_water 0 L st M nc ns = bk sa E MC MS HX (Run sa E MC MS HX Q X kL_water) Q X kL_water_0 L st M nc ns := Run_eq sa E MC MS HX Q X _ _ _ _ _ _ _
theorem rL_water_12 (sa : Nat → Nat) (E : Nat → Sem) (MC MS : Nat) (HX : Nat → Nat → Option Nat) (Q : Option Value → Mm → Prop) (X : Nat → Mm → Prop) (L : List Slot) (st : List Value) (M : Mm) (nc ns : Nat) : Run sa E MC MS HX Q X kL_water 12 L st M nc ns = bk sa E MC MS HX (Run sa E MC MS HX Q X kL_water) Q X kL_water_12 L st M nc ns := Run_eq sa E MC MS HX Q X _ _ _ _ _ _ _
theorem rL_water_15 (sa : Nat → Nat) (E : Nat → Sem) (MC MS : Nat) (HX : Nat → Nat → Option Nat) (Q : Option Value → Mm → Prop) (X : Nat → Mm → Prop) (L : List Slot) (st : List Value) (M : Mm) (nc ns : Nat) : Run sa E MC MS HX Q X kL_water 15 L st M nc ns = bk sa E MC MS HX (Run sa E MC MS HX Q X kL_water) Q X kL_water_15 L st M nc ns := Run_eq sa E MC MS HX Q X _ _ _ _ _ _ _
def kL_waterIn_0 : List Item := [(0, .aload_n 3, 1, 3, 3, 0, 0, 0, [], .null),
    (1, .iconst 0, 1, 0, 0, 0, 0, 0, [], .int 0),
    (2, .aload_n 0, 1, 3, 0, 0, 0, 0, [], .null),
    (3, .iload_n 1, 1, 1, 1, 0, 0, 0, [], .null),
    (4, .iload_n 2, 1, 1, 2, 0, 0, 0, [], .null),
    (5, .invokevirtual 26, 3, 48, 108, 3, 2, 12, [10], .null),
    (8, .i2l, 1, 12, 0, 0, 0, 0, [], .null),
    (9, .lastore, 1, 36, 0, 0, 0, 0, [], .null),
    (10, .goto 11, 3, 22, 21, 0, 0, 0, [], .null)]
def kL_waterIn_13 : List Item := [(13, .astore 4, 2, 5, 4, 0, 0, 0, [], .null),
    (15, .iconst 1, 1, 0, 0, 0, 0, 0, [], .int 1),
    (16, .ireturn, 1, 56, 0, 0, 0, 0, [], .null)]
def kL_waterIn_17 : List Item := [(17, .astore 4, 2, 5, 4, 0, 0, 0, [], .null),
    (19, .iconst 2, 1, 0, 0, 0, 0, 0, [], .int 2),
    (20, .ireturn, 1, 56, 0, 0, 0, 0, [], .null)]
def kL_waterIn_21 : List Item := [(21, .iconst 0, 1, 0, 0, 0, 0, 0, [], .int 0),
    (22, .ireturn, 1, 56, 0, 0, 0, 0, [], .null)]
def kL_waterIn : Code9 := [(0, kL_waterIn_0), (13, kL_waterIn_13), (17, kL_waterIn_17), (21, kL_waterIn_21)]
theorem rL_waterIn_0 (sa : Nat → Nat) (E : Nat → Sem) (MC MS : Nat) (HX : Nat → Nat → Option Nat) (Q : Option Value → Mm → Prop) (X : Nat → Mm → Prop) (L : List Slot) (st : List Value) (M : Mm) (nc ns : Nat) : Run sa E MC MS HX Q X kL_waterIn 0 L st M nc ns = bk sa E MC MS HX (Run sa E MC MS HX Q X kL_waterIn) Q X kL_waterIn_0 L st M nc ns := Run_eq sa E MC MS HX Q X _ _ _ _ _ _ _
theorem rL_waterIn_13 (sa : Nat → Nat) (E : Nat → Sem) (MC MS : Nat) (HX : Nat → Nat → Option Nat) (Q : Option Value → Mm → Prop) (X : Nat → Mm → Prop) (L : List Slot) (st : List Value) (M : Mm) (nc ns : Nat) : Run sa E MC MS HX Q X kL_waterIn 13 L st M nc ns = bk sa E MC MS HX (Run sa E MC MS HX Q X kL_waterIn) Q X kL_waterIn_13 L st M nc ns := Run_eq sa E MC MS HX Q X _ _ _ _ _ _ _
theorem rL_waterIn_17 (sa : Nat → Nat) (E : Nat → Sem) (MC MS : Nat) (HX : Nat → Nat → Option Nat) (Q : Option Value → Mm → Prop) (X : Nat → Mm → Prop) (L : List Slot) (st : List Value) (M : Mm) (nc ns : Nat) : Run sa E MC MS HX Q X kL_waterIn 17 L st M nc ns = bk sa E MC MS HX (Run sa E MC MS HX Q X kL_waterIn) Q X kL_waterIn_17 L st M nc ns := Run_eq sa E MC MS HX Q X _ _ _ _ _ _ _
theorem rL_waterIn_21 (sa : Nat → Nat) (E : Nat → Sem) (MC MS : Nat) (HX : Nat → Nat → Option Nat) (Q : Option Value → Mm → Prop) (X : Nat → Mm → Prop) (L : List Slot) (st : List Value) (M : Mm) (nc ns : Nat) : Run sa E MC MS HX Q X kL_waterIn 21 L st M nc ns = bk sa E MC MS HX (Run sa E MC MS HX Q X kL_waterIn) Q X kL_waterIn_21 L st M nc ns := Run_eq sa E MC MS HX Q X _ _ _ _ _ _ _
