/-! TABLES, by program (wip/whole/gen3.py): each method cut into blocks; branch targets are block numbers, fields 64 * class + slot, methods by number -/
def zB_0 : Nat → List Instr
  | 0 => [.aload 0, .getfield 2, .sipush (-9), .invokestatic 253, .aload 0, .sipush 0, .putfield 3, .aload 0, .sipush (-9), .putfield 4, .aload 0, .sipush 0, .putfield 5, .sipush 0, .istore 3]
  | 1 => [.iload 3, .iload 2, .if_icmp .ge 3, .aload 0, .aload 1, .iload 3, .iaload, .invokevirtual 1, .ifCond .ne 2, .iload 3, .ireturn]
  | 2 => [.iinc 3 1, .goto 1]
  | 3 => [.iload 2, .ifCond .le 4, .aload 0, .getfield 5, .ifCond .ne 4, .iload 2, .ireturn]
  | 4 => [.aload 0, .getfield 2, .sipush 0, .aload 0, .getfield 0, .sipush 0, .aload 0, .getfield 2, .arraylength, .invokestatic 999, .aload 0, .aload 0, .getfield 3, .putfield 1, .sipush (-1), .ireturn]
  | _ => []
def zP_0 : Nat → List Nat
  | 0 => [0, 1, 4, 6, 9, 10, 11, 14, 15, 17, 20, 21, 22, 25, 26, 27]
  | 1 => [27, 28, 29, 32, 33, 34, 35, 36, 39, 42, 43, 44]
  | 2 => [44, 47, 50]
  | 3 => [50, 51, 54, 55, 58, 61, 62, 63]
  | 4 => [63, 64, 67, 68, 69, 72, 73, 74, 77, 78, 81, 82, 83, 86, 89, 90, 91]
  | _ => [91]
def zB_1 : Nat → List Instr
  | 0 => [.aload 0, .getfield 4, .sipush (-9), .if_icmp .ne 1, .aload 0, .iload 1, .invokestatic 5, .invokevirtual 2, .ireturn]
  | 1 => [.iload 1, .sipush 59, .if_icmp .ne 2, .aload 0, .invokevirtual 3, .ireturn]
  | 2 => [.iload 1, .sipush 48, .if_icmp .lt 3, .iload 1, .sipush 57, .if_icmp .gt 3, .aload 0, .iload 1, .sipush 48, .isub, .invokevirtual 4, .ifCond .eq 3, .sipush 1, .goto 4]
  | 3 => [.sipush 0]
  | 4 => [.ireturn]
  | _ => []
def zP_1 : Nat → List Nat
  | 0 => [0, 1, 4, 6, 9, 10, 11, 14, 17, 18]
  | 1 => [18, 19, 21, 24, 25, 28, 29]
  | 2 => [29, 30, 32, 35, 36, 38, 41, 42, 43, 45, 46, 49, 52, 53, 56]
  | 3 => [56, 57]
  | 4 => [57, 58]
  | _ => [58]
def zB_2 : Nat → List Instr
  | 0 => [.iload 1, .sipush (-9), .if_icmp .eq 1, .aload 0, .getfield 2, .iload 1, .iaload, .sipush (-9), .if_icmp .eq 2]
  | 1 => [.sipush 0, .ireturn]
  | 2 => [.aload 0, .iload 1, .putfield 4, .aload 0, .getfield 2, .iload 1, .sipush 0, .iastore, .aload 0, .dup, .getfield 3, .sipush 1, .iadd, .putfield 3, .sipush 1, .ireturn]
  | _ => []
def zP_2 : Nat → List Nat
  | 0 => [0, 1, 3, 6, 7, 10, 11, 12, 14, 17]
  | 1 => [17, 18, 19]
  | 2 => [19, 20, 21, 24, 25, 28, 29, 30, 31, 32, 33, 36, 37, 38, 41, 42, 43]
  | _ => [43]
def zB_3 : Nat → List Instr
  | 0 => [.aload 0, .getfield 5, .ifCond .eq 1, .aload 0, .getfield 3, .sipush 3, .if_icmp .le 2]
  | 1 => [.sipush 0, .ireturn]
  | 2 => [.aload 0, .sipush (-9), .putfield 4, .aload 0, .sipush 0, .putfield 5, .sipush 1, .ireturn]
  | _ => []
def zP_3 : Nat → List Nat
  | 0 => [0, 1, 4, 7, 8, 11, 12, 15]
  | 1 => [15, 16, 17]
  | 2 => [17, 18, 20, 23, 24, 25, 28, 29, 30]
  | _ => [30]
def zB_4 : Nat → List Instr
  | 0 => [.aload 0, .getfield 5, .sipush 3, .if_icmp .eq 1, .aload 0, .getfield 5, .ifCond .le 2, .aload 0, .getfield 2, .aload 0, .getfield 4, .iaload, .ifCond .ne 2]
  | 1 => [.sipush 0, .ireturn]
  | 2 => [.aload 0, .getfield 2, .aload 0, .getfield 4, .sipush 10, .aload 0, .getfield 2, .aload 0, .getfield 4, .iaload, .imul, .iload 1, .iadd, .iastore, .aload 0, .dup, .getfield 5, .sipush 1, .iadd, .putfield 5, .sipush 1, .ireturn]
  | _ => []
def zP_4 : Nat → List Nat
  | 0 => [0, 1, 4, 5, 8, 9, 12, 15, 16, 19, 20, 23, 24, 27]
  | 1 => [27, 28, 29]
  | 2 => [29, 30, 33, 34, 37, 39, 40, 43, 44, 47, 48, 49, 50, 51, 52, 53, 54, 57, 58, 59, 62, 63, 64]
  | _ => [64]
def zB_5 : Nat → List Instr
  | 0 => [.iload 0, .lookupswitch 5 #[(65, 1), (66, 2), (72, 3), (89, 4)]]
  | 1 => [.sipush 0, .ireturn]
  | 2 => [.sipush 1, .ireturn]
  | 3 => [.sipush 2, .ireturn]
  | 4 => [.sipush 3, .ireturn]
  | 5 => [.sipush (-9), .ireturn]
  | _ => []
def zP_5 : Nat → List Nat
  | 0 => [0, 1, 44]
  | 1 => [44, 45, 46]
  | 2 => [46, 47, 48]
  | 3 => [48, 49, 50]
  | 4 => [50, 51, 52]
  | 5 => [52, 54, 55]
  | _ => [55]
def zB_6 : Nat → List Instr
  | 0 => [.sipush 0, .istore 5, .aload 0, .getfield 0, .sipush 0, .iaload, .sipush (-9), .if_icmp .eq 1, .iload 3, .aload 0, .getfield 0, .sipush 0, .iaload, .if_icmp .le 1, .iload 5, .sipush 1, .ior, .istore 5]
  | 1 => [.aload 0, .getfield 0, .sipush 1, .iaload, .sipush (-9), .if_icmp .eq 3, .aload 1, .getfield 196, .iload 2, .iaload, .sipush (-9), .if_icmp .eq 2, .aload 1, .getfield 195, .iload 2, .iaload, .aload 1, .getfield 196, .iload 2, .iaload, .isub, .aload 0, .getfield 0, .sipush 1, .iaload, .if_icmp .ge 3]
  | 2 => [.iload 5, .sipush 2, .ior, .istore 5]
  | 3 => [.aload 0, .getfield 0, .sipush 2, .iaload, .sipush (-9), .if_icmp .eq 4, .iload 4, .aload 0, .getfield 0, .sipush 2, .iaload, .if_icmp .ge 4, .iload 5, .sipush 4, .ior, .istore 5]
  | 4 => [.aload 0, .getfield 0, .sipush 3, .iaload, .sipush (-9), .if_icmp .eq 5, .aload 1, .getfield 195, .iload 2, .iaload, .aload 1, .getfield 194, .iload 2, .iaload, .isub, .sipush 1, .iadd, .aload 0, .getfield 0, .sipush 3, .iaload, .if_icmp .le 5, .iload 5, .sipush 8, .ior, .istore 5]
  | 5 => [.iload 5, .ireturn]
  | _ => []
def zP_6 : Nat → List Nat
  | 0 => [0, 1, 3, 4, 7, 8, 9, 11, 14, 15, 16, 19, 20, 21, 24, 26, 27, 28, 30]
  | 1 => [30, 31, 34, 35, 36, 38, 41, 42, 45, 46, 47, 49, 52, 53, 56, 57, 58, 59, 62, 63, 64, 65, 66, 69, 70, 71, 74]
  | 2 => [74, 76, 77, 78, 80]
  | 3 => [80, 81, 84, 85, 86, 88, 91, 93, 94, 97, 98, 99, 102, 104, 105, 106, 108]
  | 4 => [108, 109, 112, 113, 114, 116, 119, 120, 123, 124, 125, 126, 129, 130, 131, 132, 133, 134, 135, 138, 139, 140, 143, 145, 147, 148, 150]
  | 5 => [150, 152, 153]
  | _ => [153]
def zB_7 : Nat → List Instr
  | 0 => [.aload 0, .getfield 68, .sipush 40, .if_icmp .lt 1, .sipush (-4), .ireturn]
  | 1 => [.aload 0, .getfield 64, .aload 0, .getfield 68, .iload 1, .iastore, .aload 0, .getfield 65, .aload 0, .getfield 68, .iload 2, .iastore, .aload 0, .getfield 66, .aload 0, .getfield 68, .iload 3, .iastore, .aload 0, .getfield 67, .aload 0, .getfield 68, .iload 4, .iastore, .aload 0, .dup, .getfield 68, .dup_x1, .sipush 1, .iadd, .putfield 68, .ireturn]
  | _ => []
def zP_7 : Nat → List Nat
  | 0 => [0, 1, 4, 6, 9, 11, 12]
  | 1 => [12, 13, 16, 17, 20, 21, 22, 23, 26, 27, 30, 31, 32, 33, 36, 37, 40, 41, 42, 43, 46, 47, 50, 52, 53, 54, 55, 58, 59, 60, 61, 64, 65]
  | _ => [65]
def zB_8 : Nat → List Instr
  | 0 => [.aload 0, .getfield 66, .iload 1, .iaload, .iload 2, .if_icmp .gt 1, .aload 0, .getfield 67, .iload 1, .iaload, .iload 2, .if_icmp .lt 1, .sipush 1, .goto 2]
  | 1 => [.sipush 0]
  | 2 => [.ireturn]
  | _ => []
def zP_8 : Nat → List Nat
  | 0 => [0, 1, 4, 5, 6, 7, 10, 11, 14, 15, 16, 17, 20, 21, 24]
  | 1 => [24, 25]
  | 2 => [25, 26]
  | _ => [26]
def zB_9 : Nat → List Instr
  | 0 => [.sipush 0, .istore 3]
  | 1 => [.iload 3, .aload 0, .getfield 68, .if_icmp .ge 3, .aload 0, .getfield 64, .iload 3, .iaload, .iload 1, .if_icmp .ne 2, .aload 0, .iload 3, .iload 2, .invokevirtual 8, .ifCond .eq 2, .sipush 1, .ireturn]
  | 2 => [.iinc 3 1, .goto 1]
  | 3 => [.sipush 0, .ireturn]
  | _ => []
def zP_9 : Nat → List Nat
  | 0 => [0, 1, 2]
  | 1 => [2, 3, 4, 7, 10, 11, 14, 15, 16, 17, 20, 21, 22, 23, 26, 29, 30, 31]
  | 2 => [31, 34, 37]
  | 3 => [37, 38, 39]
  | _ => [39]
def zB_10 : Nat → List Instr
  | 0 => [.aload 0, .getfield 69, .sipush 0, .invokestatic 253, .sipush 0, .istore 2]
  | 1 => [.iload 2, .aload 0, .getfield 68, .if_icmp .ge 3, .aload 0, .getfield 64, .iload 2, .iaload, .iload 1, .if_icmp .ne 2, .aload 0, .getfield 69, .aload 0, .getfield 66, .iload 2, .iaload, .sipush 1500, .isub, .dup2, .iaload, .sipush 1, .iadd, .iastore, .aload 0, .getfield 69, .aload 0, .getfield 67, .iload 2, .iaload, .sipush 1500, .isub, .sipush 1, .iadd, .dup2, .iaload, .sipush 1, .isub, .iastore]
  | 2 => [.iinc 2 1, .goto 1]
  | 3 => [.return_]
  | _ => []
def zP_10 : Nat → List Nat
  | 0 => [0, 1, 4, 5, 8, 9, 10]
  | 1 => [10, 11, 12, 15, 18, 19, 22, 23, 24, 25, 28, 29, 32, 33, 36, 37, 38, 41, 42, 43, 44, 45, 46, 47, 48, 51, 52, 55, 56, 57, 60, 61, 62, 63, 64, 65, 66, 67, 68]
  | 2 => [68, 71, 74]
  | 3 => [74, 75]
  | _ => [75]
def zB_11 : Nat → List Instr
  | 0 => [.aload 0, .iload 1, .sipush 0, .invokevirtual 12, .pop, .aload 0, .getfield 70, .ireturn]
  | _ => []
def zP_11 : Nat → List Nat
  | 0 => [0, 1, 2, 3, 6, 7, 8, 11, 12]
  | _ => [12]
def zB_12 : Nat → List Instr
  | 0 => [.aload 0, .iload 1, .invokevirtual 10, .aload 0, .sipush 0, .putfield 70, .sipush 0, .istore 3, .sipush (-1), .istore 4, .sipush 0, .istore 5]
  | 1 => [.iload 5, .sipush 601, .if_icmp .ge 4, .iload 3, .aload 0, .getfield 69, .iload 5, .iaload, .iadd, .istore 3, .iload 3, .ifCond .le 3, .iload 4, .sipush (-1), .if_icmp .eq 2, .iload 4, .iload 5, .sipush 1, .isub, .if_icmp .ge 2, .aload 0, .iload 2, .iload 4, .sipush 1, .iadd, .iload 5, .sipush 1, .isub, .invokevirtual 13]
  | 2 => [.iload 5, .istore 4]
  | 3 => [.iinc 5 1, .goto 1]
  | 4 => [.iload 2, .aload 0, .getfield 70, .if_icmp .ge 5, .sipush 1, .goto 6]
  | 5 => [.sipush 0]
  | 6 => [.ireturn]
  | _ => []
def zP_12 : Nat → List Nat
  | 0 => [0, 1, 2, 5, 6, 7, 10, 11, 12, 13, 15, 16, 18]
  | 1 => [18, 20, 23, 26, 27, 28, 31, 33, 34, 35, 36, 37, 40, 42, 43, 46, 48, 50, 51, 52, 55, 56, 57, 59, 60, 61, 63, 64, 65, 68]
  | 2 => [68, 70, 72]
  | 3 => [72, 75, 78]
  | 4 => [78, 79, 80, 83, 86, 87, 90]
  | 5 => [90, 91]
  | 6 => [91, 92]
  | _ => [92]
def zB_13 : Nat → List Instr
  | 0 => [.aload 0, .getfield 70, .iload 1, .if_icmp .ne 1, .aload 0, .sipush 1500, .iload 2, .iadd, .putfield 71, .aload 0, .sipush 1500, .iload 3, .iadd, .putfield 72]
  | 1 => [.aload 0, .dup, .getfield 70, .sipush 1, .iadd, .putfield 70, .return_]
  | _ => []
def zP_13 : Nat → List Nat
  | 0 => [0, 1, 4, 5, 8, 9, 12, 13, 14, 17, 18, 21, 22, 23, 26]
  | 1 => [26, 27, 28, 31, 32, 33, 36, 37]
  | _ => [37]
def zB_14 : Nat → List Instr
  | 0 => [.sipush 0, .istore 2, .sipush 0, .istore 3]
  | 1 => [.iload 3, .aload 0, .getfield 68, .if_icmp .ge 5, .sipush 0, .istore 4]
  | 2 => [.iload 4, .iload 3, .if_icmp .ge 4, .aload 0, .getfield 64, .iload 3, .iaload, .iload 1, .if_icmp .ne 3, .aload 0, .getfield 64, .iload 4, .iaload, .iload 1, .if_icmp .ne 3, .aload 0, .getfield 65, .iload 3, .iaload, .aload 0, .getfield 65, .iload 4, .iaload, .if_icmp .eq 3, .aload 0, .getfield 66, .iload 3, .iaload, .aload 0, .getfield 67, .iload 4, .iaload, .if_icmp .gt 3, .aload 0, .getfield 66, .iload 4, .iaload, .aload 0, .getfield 67, .iload 3, .iaload, .if_icmp .gt 3, .iinc 2 1]
  | 3 => [.iinc 4 1, .goto 2]
  | 4 => [.iinc 3 1, .goto 1]
  | 5 => [.iload 2, .ireturn]
  | _ => []
def zP_14 : Nat → List Nat
  | 0 => [0, 1, 2, 3, 4]
  | 1 => [4, 5, 6, 9, 12, 13, 15]
  | 2 => [15, 17, 18, 21, 22, 25, 26, 27, 28, 31, 32, 35, 37, 38, 39, 42, 43, 46, 47, 48, 49, 52, 54, 55, 58, 59, 62, 63, 64, 65, 68, 70, 71, 74, 75, 78, 80, 81, 82, 85, 86, 87, 90, 93]
  | 3 => [93, 96, 99]
  | 4 => [99, 102, 105]
  | 5 => [105, 106, 107]
  | _ => [107]
def zB_15 : Nat → List Instr
  | 0 => [.aload 0, .iload 1, .iload 2, .iload 3, .invokevirtual 16, .istore 4, .iload 4, .sipush (-1), .if_icmp .eq 1, .aload 0, .iload 1, .aload 0, .getfield 67, .iload 4, .iaload, .sipush 1, .iadd, .invokevirtual 9, .ifCond .eq 2]
  | 1 => [.sipush 0, .ireturn]
  | 2 => [.aload 0, .iload 1, .iload 3, .invokevirtual 17, .istore 5, .iload 5, .sipush (-1), .if_icmp .eq 3, .aload 0, .getfield 65, .iload 5, .iaload, .iload 2, .if_icmp .eq 3, .sipush 1, .goto 4]
  | 3 => [.sipush 0]
  | 4 => [.ireturn]
  | _ => []
def zP_15 : Nat → List Nat
  | 0 => [0, 1, 2, 3, 4, 7, 9, 11, 12, 15, 16, 17, 18, 21, 23, 24, 25, 26, 29, 32]
  | 1 => [32, 33, 34]
  | 2 => [34, 35, 36, 37, 40, 42, 44, 45, 48, 49, 52, 54, 55, 56, 59, 60, 63]
  | 3 => [63, 64]
  | 4 => [64, 65]
  | _ => [65]
def zB_16 : Nat → List Instr
  | 0 => [.sipush 0, .istore 4]
  | 1 => [.iload 4, .aload 0, .getfield 68, .if_icmp .ge 3, .aload 0, .getfield 64, .iload 4, .iaload, .iload 1, .if_icmp .ne 2, .aload 0, .getfield 65, .iload 4, .iaload, .iload 2, .if_icmp .ne 2, .aload 0, .iload 4, .iload 3, .invokevirtual 8, .ifCond .eq 2, .iload 4, .ireturn]
  | 2 => [.iinc 4 1, .goto 1]
  | 3 => [.sipush (-1), .ireturn]
  | _ => []
def zP_16 : Nat → List Nat
  | 0 => [0, 1, 3]
  | 1 => [3, 5, 6, 9, 12, 13, 16, 18, 19, 20, 23, 24, 27, 29, 30, 31, 34, 35, 37, 38, 41, 44, 46, 47]
  | 2 => [47, 50, 53]
  | 3 => [53, 54, 55]
  | _ => [55]
def zB_17 : Nat → List Instr
  | 0 => [.sipush (-1), .istore 3, .sipush 0, .istore 4]
  | 1 => [.iload 4, .aload 0, .getfield 68, .if_icmp .ge 4, .aload 0, .getfield 64, .iload 4, .iaload, .iload 1, .if_icmp .ne 3, .aload 0, .getfield 66, .iload 4, .iaload, .iload 2, .if_icmp .le 3, .iload 3, .sipush (-1), .if_icmp .eq 2, .aload 0, .getfield 66, .iload 4, .iaload, .aload 0, .getfield 66, .iload 3, .iaload, .if_icmp .ge 3]
  | 2 => [.iload 4, .istore 3]
  | 3 => [.iinc 4 1, .goto 1]
  | 4 => [.iload 3, .ireturn]
  | _ => []
def zP_17 : Nat → List Nat
  | 0 => [0, 1, 2, 3, 5]
  | 1 => [5, 7, 8, 11, 14, 15, 18, 20, 21, 22, 25, 26, 29, 31, 32, 33, 36, 37, 38, 41, 42, 45, 47, 48, 49, 52, 53, 54, 57]
  | 2 => [57, 59, 60]
  | 3 => [60, 63, 66]
  | 4 => [66, 67, 68]
  | _ => [68]
def zB_18 : Nat → List Instr
  | 0 => [.aload 0, .iload 1, .iload 3, .invokevirtual 9, .ifCond .ne 1, .aload 0, .iload 1, .iload 3, .invokevirtual 19, .ireturn]
  | 1 => [.aload 0, .iload 1, .iload 2, .iload 3, .invokevirtual 16, .sipush (-1), .if_icmp .eq 2, .aload 0, .iload 1, .iload 2, .iload 3, .invokevirtual 20, .ifCond .eq 2, .sipush 1, .goto 3]
  | 2 => [.sipush 0]
  | 3 => [.ireturn]
  | _ => []
def zP_18 : Nat → List Nat
  | 0 => [0, 1, 2, 3, 6, 9, 10, 11, 12, 15, 16]
  | 1 => [16, 17, 18, 19, 20, 23, 24, 27, 28, 29, 30, 31, 34, 37, 38, 41]
  | 2 => [41, 42]
  | 3 => [42, 43]
  | _ => [43]
def zB_19 : Nat → List Instr
  | 0 => [.sipush 0, .istore 3, .sipush 0, .istore 4, .sipush 0, .istore 5]
  | 1 => [.iload 5, .aload 0, .getfield 68, .if_icmp .ge 7, .aload 0, .getfield 64, .iload 5, .iaload, .iload 1, .if_icmp .ne 6, .iload 3, .aload 0, .getfield 67, .iload 5, .iaload, .iload 2, .if_icmp .ge 2, .sipush 1, .goto 3]
  | 2 => [.sipush 0]
  | 3 => [.ior, .istore 3, .iload 4, .aload 0, .getfield 66, .iload 5, .iaload, .iload 2, .if_icmp .le 4, .sipush 1, .goto 5]
  | 4 => [.sipush 0]
  | 5 => [.ior, .istore 4]
  | 6 => [.iinc 5 1, .goto 1]
  | 7 => [.iload 3, .ifCond .eq 8, .iload 4, .ifCond .eq 8, .sipush 1, .goto 9]
  | 8 => [.sipush 0]
  | 9 => [.ireturn]
  | _ => []
def zP_19 : Nat → List Nat
  | 0 => [0, 1, 2, 3, 5, 6, 8]
  | 1 => [8, 10, 11, 14, 17, 18, 21, 23, 24, 25, 28, 29, 30, 33, 35, 36, 37, 40, 41, 44]
  | 2 => [44, 45]
  | 3 => [45, 46, 47, 49, 50, 53, 55, 56, 57, 60, 61, 64]
  | 4 => [64, 65]
  | 5 => [65, 66, 68]
  | 6 => [68, 71, 74]
  | 7 => [74, 75, 78, 80, 83, 84, 87]
  | 8 => [87, 88]
  | 9 => [88, 89]
  | _ => [89]
def zB_20 : Nat → List Instr
  | 0 => [.sipush 0, .istore 4]
  | 1 => [.iload 4, .aload 0, .getfield 68, .if_icmp .ge 3, .aload 0, .getfield 64, .iload 4, .iaload, .iload 1, .if_icmp .ne 2, .aload 0, .getfield 65, .iload 4, .iaload, .iload 2, .if_icmp .eq 2, .aload 0, .iload 4, .iload 3, .invokevirtual 8, .ifCond .eq 2, .sipush 1, .ireturn]
  | 2 => [.iinc 4 1, .goto 1]
  | 3 => [.sipush 0, .ireturn]
  | _ => []
def zP_20 : Nat → List Nat
  | 0 => [0, 1, 3]
  | 1 => [3, 5, 6, 9, 12, 13, 16, 18, 19, 20, 23, 24, 27, 29, 30, 31, 34, 35, 37, 38, 41, 44, 45, 46]
  | 2 => [46, 49, 52]
  | 3 => [52, 53, 54]
  | _ => [54]
def zB_21 : Nat → List Instr
  | 0 => [.aload 0, .aload 1, .getfield 452, .putfield 128, .aload 0, .aload 2, .getfield 645, .putfield 129, .sipush 0, .istore 3]
  | 1 => [.iload 3, .aload 0, .getfield 128, .if_icmp .ge 6, .aload 0, .getfield 130, .iload 3, .aload 1, .getfield 448, .iload 3, .iaload, .iastore, .sipush 0, .istore 4]
  | 2 => [.iload 4, .aload 0, .getfield 129, .if_icmp .ge 5, .aload 0, .getfield 131, .iload 3, .aaload, .iload 4, .aload 1, .iload 3, .iload 4, .aload 2, .getfield 641, .iload 4, .iaload, .invokevirtual 64, .ifCond .eq 3, .aload 1, .getfield 451, .iload 3, .aaload, .iload 4, .iaload, .goto 4]
  | 3 => [.sipush 0]
  | 4 => [.iastore, .iinc 4 1, .goto 2]
  | 5 => [.iinc 3 1, .goto 1]
  | 6 => [.aload 0, .getfield 132, .sipush (-1), .invokestatic 253, .aload 0, .getfield 133, .sipush (-1), .invokestatic 253, .return_]
  | _ => []
def zP_21 : Nat → List Nat
  | 0 => [0, 1, 2, 5, 8, 9, 10, 13, 16, 17, 18]
  | 1 => [18, 19, 20, 23, 26, 27, 30, 31, 32, 35, 36, 37, 38, 39, 41]
  | 2 => [41, 43, 44, 47, 50, 51, 54, 55, 56, 58, 59, 60, 62, 63, 66, 68, 69, 72, 75, 76, 79, 80, 81, 83, 84, 87]
  | 3 => [87, 88]
  | 4 => [88, 89, 92, 95]
  | 5 => [95, 98, 101]
  | 6 => [101, 102, 105, 106, 109, 110, 113, 114, 117, 118]
  | _ => [118]
def zB_22 : Nat → List Instr
  | 0 => [.aload 0, .getfield 132, .iload 1, .iload 2, .iastore, .aload 0, .getfield 133, .iload 2, .iload 1, .iastore, .return_]
  | _ => []
def zP_22 : Nat → List Nat
  | 0 => [0, 1, 4, 5, 6, 7, 8, 11, 12, 13, 14, 15]
  | _ => [15]
def zB_23 : Nat → List Instr
  | 0 => [.sipush 0, .istore 1, .sipush 0, .istore 2]
  | 1 => [.iload 2, .aload 0, .getfield 128, .if_icmp .ge 3, .aload 0, .getfield 132, .iload 2, .iaload, .ifCond .lt 2, .iload 1, .aload 0, .getfield 131, .iload 2, .aaload, .aload 0, .getfield 132, .iload 2, .iaload, .iaload, .iadd, .istore 1]
  | 2 => [.iinc 2 1, .goto 1]
  | 3 => [.iload 1, .ireturn]
  | _ => []
def zP_23 : Nat → List Nat
  | 0 => [0, 1, 2, 3, 4]
  | 1 => [4, 5, 6, 9, 12, 13, 16, 17, 18, 21, 22, 23, 26, 27, 28, 29, 32, 33, 34, 35, 36, 37]
  | 2 => [37, 40, 43]
  | 3 => [43, 44, 45]
  | _ => [45]
def zB_24 : Nat → List Instr
  | 0 => [.aload 0, .getfield 134, .sipush 0, .invokestatic 253, .aload 0, .getfield 137, .lconst 0, .invokestatic 252, .aload 0, .getfield 138, .lconst 0, .invokestatic 252, .sipush 1, .istore 1]
  | 1 => [.iload 1, .aload 0, .getfield 128, .if_icmp .gt 2, .aload 0, .iload 1, .invokevirtual 25, .iinc 1 1, .goto 1]
  | 2 => [.sipush 1, .istore 1]
  | 3 => [.iload 1, .aload 0, .getfield 129, .if_icmp .gt 5, .aload 0, .getfield 134, .iload 1, .iaload, .ifCond .le 4, .aload 0, .getfield 131, .aload 0, .getfield 134, .iload 1, .iaload, .sipush 1, .isub, .aaload, .iload 1, .sipush 1, .isub, .iaload, .ifCond .le 4, .aload 0, .aload 0, .getfield 134, .iload 1, .iaload, .sipush 1, .isub, .iload 1, .sipush 1, .isub, .invokevirtual 22]
  | 4 => [.iinc 1 1, .goto 3]
  | 5 => [.return_]
  | _ => []
def zP_24 : Nat → List Nat
  | 0 => [0, 1, 4, 5, 8, 9, 12, 13, 16, 17, 20, 21, 24, 25, 26]
  | 1 => [26, 27, 28, 31, 34, 35, 36, 39, 42, 45]
  | 2 => [45, 46, 47]
  | 3 => [47, 48, 49, 52, 55, 56, 59, 60, 61, 64, 65, 68, 69, 72, 73, 74, 75, 76, 77, 78, 79, 80, 81, 84, 85, 86, 89, 90, 91, 92, 93, 94, 95, 96, 99]
  | 4 => [99, 102, 105]
  | 5 => [105, 106]
  | _ => [106]
def zB_25 : Nat → List Instr
  | 0 => [.aload 0, .getfield 136, .ldc2_w 1, .invokestatic 252, .aload 0, .getfield 134, .sipush 0, .iload 1, .iastore, .sipush 0, .istore 2, .sipush 0, .istore 3, .sipush 0, .istore 4]
  | 1 => [.iload 4, .sipush 20, .if_icmp .gt 2, .aload 0, .getfield 134, .iload 2, .iaload, .ifCond .eq 2, .iload 3, .sipush 1, .iload 2, .ishl, .ior, .istore 3, .aload 0, .iload 2, .iload 3, .invokevirtual 26, .aload 0, .iload 3, .invokevirtual 27, .istore 5, .aload 0, .aload 0, .getfield 136, .iload 5, .laload, .iload 3, .invokevirtual 28, .iload 5, .istore 2, .iinc 4 1, .goto 1]
  | 2 => [.sipush 0, .istore 4]
  | 3 => [.iload 4, .sipush 20, .if_icmp .gt 4, .iload 2, .ifCond .eq 4, .aload 0, .getfield 134, .iload 2, .aload 0, .getfield 134, .aload 0, .getfield 135, .iload 2, .iaload, .iaload, .iastore, .aload 0, .getfield 135, .iload 2, .iaload, .istore 2, .iinc 4 1, .goto 3]
  | 4 => [.return_]
  | _ => []
def zP_25 : Nat → List Nat
  | 0 => [0, 1, 4, 7, 10, 11, 14, 15, 16, 17, 18, 19, 20, 21, 22, 24]
  | 1 => [24, 26, 28, 31, 32, 35, 36, 37, 40, 41, 42, 43, 44, 45, 46, 47, 48, 49, 52, 53, 54, 57, 59, 60, 61, 64, 66, 67, 68, 71, 73, 74, 77, 80]
  | 2 => [80, 81, 83]
  | 3 => [83, 85, 87, 90, 91, 94, 95, 98, 99, 100, 103, 104, 107, 108, 109, 110, 111, 112, 115, 116, 117, 118, 121, 124]
  | 4 => [124, 125]
  | _ => [125]
def zB_26 : Nat → List Instr
  | 0 => [.aload 0, .getfield 134, .iload 1, .iaload, .istore 3, .sipush 1, .istore 4]
  | 1 => [.iload 4, .aload 0, .getfield 129, .aload 0, .getfield 128, .iadd, .if_icmp .gt 3, .aload 0, .iload 3, .iload 4, .invokevirtual 29, .aload 0, .getfield 138, .iload 3, .laload, .lsub, .aload 0, .getfield 137, .iload 4, .laload, .lsub, .lstore 5, .iload 2, .iload 4, .ishr, .sipush 1, .iand, .ifCond .ne 2, .lload 5, .aload 0, .getfield 136, .iload 4, .laload, .lcmp, .ifCond .ge 2, .aload 0, .getfield 136, .iload 4, .lload 5, .lastore, .aload 0, .getfield 135, .iload 4, .iload 1, .iastore]
  | 2 => [.iinc 4 1, .goto 1]
  | 3 => [.return_]
  | _ => []
def zP_26 : Nat → List Nat
  | 0 => [0, 1, 4, 5, 6, 7, 8, 10]
  | 1 => [10, 12, 13, 16, 17, 20, 21, 24, 25, 26, 28, 31, 32, 35, 36, 37, 38, 39, 42, 44, 45, 46, 48, 49, 51, 52, 53, 54, 57, 59, 60, 63, 65, 66, 67, 70, 71, 74, 76, 78, 79, 80, 83, 85, 86, 87]
  | 2 => [87, 90, 93]
  | 3 => [93, 94]
  | _ => [94]
def zB_27 : Nat → List Instr
  | 0 => [.sipush 0, .istore 2, .sipush 1, .istore 3]
  | 1 => [.iload 3, .aload 0, .getfield 129, .aload 0, .getfield 128, .iadd, .if_icmp .gt 4, .iload 1, .iload 3, .ishr, .sipush 1, .iand, .ifCond .ne 3, .iload 2, .ifCond .eq 2, .aload 0, .getfield 136, .iload 3, .laload, .aload 0, .getfield 136, .iload 2, .laload, .lcmp, .ifCond .ge 3]
  | 2 => [.iload 3, .istore 2]
  | 3 => [.iinc 3 1, .goto 1]
  | 4 => [.iload 2, .ireturn]
  | _ => []
def zP_27 : Nat → List Nat
  | 0 => [0, 1, 2, 3, 4]
  | 1 => [4, 5, 6, 9, 10, 13, 14, 17, 18, 19, 20, 21, 22, 25, 26, 29, 30, 33, 34, 35, 36, 39, 40, 41, 42, 45]
  | 2 => [45, 46, 47]
  | 3 => [47, 50, 53]
  | 4 => [53, 54, 55]
  | _ => [55]
def zB_28 : Nat → List Instr
  | 0 => [.sipush 0, .istore 4]
  | 1 => [.iload 4, .aload 0, .getfield 129, .aload 0, .getfield 128, .iadd, .if_icmp .gt 4, .iload 3, .iload 4, .ishr, .sipush 1, .iand, .ifCond .ne 2, .aload 0, .getfield 136, .iload 4, .dup2, .laload, .lload 1, .lsub, .lastore, .goto 3]
  | 2 => [.aload 0, .getfield 138, .aload 0, .getfield 134, .iload 4, .iaload, .dup2, .laload, .lload 1, .ladd, .lastore, .aload 0, .getfield 137, .iload 4, .dup2, .laload, .lload 1, .lsub, .lastore]
  | 3 => [.iinc 4 1, .goto 1]
  | 4 => [.return_]
  | _ => []
def zP_28 : Nat → List Nat
  | 0 => [0, 1, 3]
  | 1 => [3, 5, 6, 9, 10, 13, 14, 17, 18, 20, 21, 22, 23, 26, 27, 30, 32, 33, 34, 35, 36, 37, 40]
  | 2 => [40, 41, 44, 45, 48, 50, 51, 52, 53, 54, 55, 56, 57, 60, 62, 63, 64, 65, 66, 67]
  | 3 => [67, 70, 73]
  | 4 => [73, 74]
  | _ => [74]
def zB_29 : Nat → List Instr
  | 0 => [.getstatic 104, .iload 1, .sipush 1, .isub, .laload, .lstore 3, .iload 2, .aload 0, .getfield 129, .if_icmp .le 1, .ldc2_w 2, .lload 3, .lmul, .lreturn]
  | 1 => [.aload 0, .getfield 131, .iload 1, .sipush 1, .isub, .aaload, .iload 2, .sipush 1, .isub, .iaload, .istore 5, .iload 5, .ifCond .ne 2, .ldc2_w 3, .goto 3]
  | 2 => [.iload 2, .sipush 1, .isub, .i2l, .lload 3, .lmul, .iload 5, .i2l, .ldc2_w 4, .lmul, .lsub]
  | 3 => [.lreturn]
  | _ => []
def zP_29 : Nat → List Nat
  | 0 => [0, 3, 4, 5, 6, 7, 8, 9, 10, 13, 16, 19, 20, 21, 22]
  | 1 => [22, 23, 26, 27, 28, 29, 30, 31, 32, 33, 34, 36, 38, 41, 44, 47]
  | 2 => [47, 48, 49, 50, 51, 52, 53, 55, 56, 59, 60, 61]
  | 3 => [61, 62]
  | _ => [62]
def zB_30 : Nat → List Instr
  | 0 => [.sipush 0, .istore 1, .sipush 0, .istore 2]
  | 1 => [.iload 2, .aload 0, .getfield 128, .if_icmp .ge 3, .aload 0, .iload 1, .invokevirtual 31, .istore 3, .aload 0, .iload 3, .invokevirtual 32, .istore 4, .iload 4, .sipush (-1), .if_icmp .eq 2, .aload 0, .iload 3, .iload 4, .invokevirtual 22]
  | 2 => [.iload 1, .sipush 1, .iload 3, .ishl, .ior, .istore 1, .iinc 2 1, .goto 1]
  | 3 => [.return_]
  | _ => []
def zP_30 : Nat → List Nat
  | 0 => [0, 1, 2, 3, 4]
  | 1 => [4, 5, 6, 9, 12, 13, 14, 17, 18, 19, 20, 23, 25, 27, 28, 31, 32, 33, 35, 38]
  | 2 => [38, 39, 40, 41, 42, 43, 44, 47, 50]
  | 3 => [50, 51]
  | _ => [51]
def zB_31 : Nat → List Instr
  | 0 => [.sipush (-1), .istore 2, .sipush 0, .istore 3]
  | 1 => [.iload 3, .aload 0, .getfield 128, .if_icmp .ge 4, .iload 1, .iload 3, .ishr, .sipush 1, .iand, .ifCond .ne 3, .iload 2, .sipush (-1), .if_icmp .eq 2, .aload 0, .iload 3, .iload 2, .invokevirtual 33, .ifCond .eq 3]
  | 2 => [.iload 3, .istore 2]
  | 3 => [.iinc 3 1, .goto 1]
  | 4 => [.iload 2, .sipush 0, .invokestatic 254, .ireturn]
  | _ => []
def zP_31 : Nat → List Nat
  | 0 => [0, 1, 2, 3, 4]
  | 1 => [4, 5, 6, 9, 12, 13, 14, 15, 16, 17, 20, 21, 22, 25, 26, 27, 28, 31, 34]
  | 2 => [34, 35, 36]
  | 3 => [36, 39, 42]
  | 4 => [42, 43, 44, 47, 48]
  | _ => [48]
def zB_32 : Nat → List Instr
  | 0 => [.sipush (-1), .istore 2, .sipush 0, .istore 3, .sipush 0, .istore 4]
  | 1 => [.iload 4, .aload 0, .getfield 129, .if_icmp .ge 3, .aload 0, .getfield 133, .iload 4, .iaload, .sipush (-1), .if_icmp .ne 2, .aload 0, .getfield 131, .iload 1, .aaload, .iload 4, .iaload, .iload 3, .if_icmp .le 2, .iload 4, .istore 2, .aload 0, .getfield 131, .iload 1, .aaload, .iload 4, .iaload, .istore 3]
  | 2 => [.iinc 4 1, .goto 1]
  | 3 => [.iload 2, .ireturn]
  | _ => []
def zP_32 : Nat → List Nat
  | 0 => [0, 1, 2, 3, 4, 5, 7]
  | 1 => [7, 9, 10, 13, 16, 17, 20, 22, 23, 24, 27, 28, 31, 32, 33, 35, 36, 37, 40, 42, 43, 44, 47, 48, 49, 51, 52, 53]
  | 2 => [53, 56, 59]
  | 3 => [59, 60, 61]
  | _ => [61]
def zB_33 : Nat → List Instr
  | 0 => [.aload 0, .getfield 130, .iload 1, .iaload, .aload 0, .getfield 130, .iload 2, .iaload, .if_icmp .gt 1, .aload 0, .getfield 130, .iload 1, .iaload, .aload 0, .getfield 130, .iload 2, .iaload, .if_icmp .ne 2, .iload 1, .iload 2, .if_icmp .ge 2]
  | 1 => [.sipush 1, .goto 3]
  | 2 => [.sipush 0]
  | 3 => [.ireturn]
  | _ => []
def zP_33 : Nat → List Nat
  | 0 => [0, 1, 4, 5, 6, 7, 10, 11, 12, 15, 16, 19, 20, 21, 22, 25, 26, 27, 30, 31, 32, 35]
  | 1 => [35, 36, 39]
  | 2 => [39, 40]
  | 3 => [40, 41]
  | _ => [41]
def zB_34 : Nat → List Instr
  | 0 => [.sipush 0, .istore 2]
  | 1 => [.iload 2, .aload 0, .getfield 128, .if_icmp .ge 5, .aload 1, .iload 2, .iaload, .istore 3, .iload 3, .sipush (-1), .if_icmp .eq 4, .iload 3, .ifCond .lt 2, .iload 3, .aload 0, .getfield 129, .if_icmp .ge 2, .aload 0, .getfield 131, .iload 2, .aaload, .iload 3, .iaload, .ifCond .eq 2, .aload 0, .getfield 133, .iload 3, .iaload, .sipush (-1), .if_icmp .eq 3]
  | 2 => [.sipush 0, .ireturn]
  | 3 => [.aload 0, .iload 2, .iload 3, .invokevirtual 22]
  | 4 => [.iinc 2 1, .goto 1]
  | 5 => [.sipush 1, .ireturn]
  | _ => []
def zP_34 : Nat → List Nat
  | 0 => [0, 1, 2]
  | 1 => [2, 3, 4, 7, 10, 11, 12, 13, 14, 15, 16, 19, 20, 23, 24, 25, 28, 31, 32, 35, 36, 37, 38, 39, 42, 43, 46, 47, 48, 49, 52]
  | 2 => [52, 53, 54]
  | 3 => [54, 55, 56, 57, 60]
  | 4 => [60, 63, 66]
  | 5 => [66, 67, 68]
  | _ => [68]
def zB_35 : Nat → List Instr
  | 0 => [.aload 0, .getfield 132, .iload 1, .iaload, .ifCond .ge 1, .sipush 0, .goto 2]
  | 1 => [.aload 0, .getfield 131, .iload 1, .aaload, .aload 0, .getfield 132, .iload 1, .iaload, .iaload]
  | 2 => [.istore 3, .aload 0, .getfield 131, .iload 1, .aaload, .iload 2, .iaload, .iload 3, .if_icmp .le 4, .aload 0, .getfield 133, .iload 2, .iaload, .sipush (-1), .if_icmp .eq 3, .aload 0, .iload 1, .aload 0, .getfield 133, .iload 2, .iaload, .invokevirtual 33, .ifCond .eq 4]
  | 3 => [.sipush 1, .goto 5]
  | 4 => [.sipush 0]
  | 5 => [.ireturn]
  | _ => []
def zP_35 : Nat → List Nat
  | 0 => [0, 1, 4, 5, 6, 9, 10, 13]
  | 1 => [13, 14, 17, 18, 19, 20, 23, 24, 25, 26]
  | 2 => [26, 27, 28, 31, 32, 33, 34, 35, 36, 39, 40, 43, 44, 45, 46, 49, 50, 51, 52, 55, 56, 57, 60, 63]
  | 3 => [63, 64, 67]
  | 4 => [67, 68]
  | 5 => [68, 69]
  | _ => [69]
def zB_36 : Nat → List Instr
  | 0 => [.sipush 0, .istore 1, .sipush 0, .istore 2]
  | 1 => [.iload 2, .aload 0, .getfield 128, .if_icmp .ge 5, .sipush 0, .istore 3]
  | 2 => [.iload 3, .aload 0, .getfield 129, .if_icmp .ge 4, .aload 0, .iload 2, .iload 3, .invokevirtual 35, .ifCond .eq 3, .iinc 1 1]
  | 3 => [.iinc 3 1, .goto 2]
  | 4 => [.iinc 2 1, .goto 1]
  | 5 => [.iload 1, .ireturn]
  | _ => []
def zP_36 : Nat → List Nat
  | 0 => [0, 1, 2, 3, 4]
  | 1 => [4, 5, 6, 9, 12, 13, 14]
  | 2 => [14, 15, 16, 19, 22, 23, 24, 25, 28, 31, 34]
  | 3 => [34, 37, 40]
  | 4 => [40, 43, 46]
  | 5 => [46, 47, 48]
  | _ => [48]
def zB_37 : Nat → List Instr
  | 0 => [.iload 1, .istore 2, .sipush 0, .istore 3]
  | 1 => [.iload 3, .aload 0, .getfield 128, .if_icmp .ge 6, .sipush 0, .istore 4]
  | 2 => [.iload 4, .aload 0, .getfield 129, .if_icmp .ge 5, .aload 0, .iload 3, .iload 4, .invokevirtual 35, .ifCond .eq 4, .iload 2, .ifCond .ne 3, .sipush 10, .iload 3, .imul, .iload 4, .iadd, .ireturn]
  | 3 => [.iinc 2 (-1)]
  | 4 => [.iinc 4 1, .goto 2]
  | 5 => [.iinc 3 1, .goto 1]
  | 6 => [.sipush (-1), .ireturn]
  | _ => []
def zP_37 : Nat → List Nat
  | 0 => [0, 1, 2, 3, 4]
  | 1 => [4, 5, 6, 9, 12, 13, 15]
  | 2 => [15, 17, 18, 21, 24, 25, 26, 28, 31, 34, 35, 38, 40, 41, 42, 44, 45, 46]
  | 3 => [46, 49]
  | 4 => [49, 52, 55]
  | 5 => [55, 58, 61]
  | 6 => [61, 62, 63]
  | _ => [63]
def zB_38 : Nat → List Instr
  | 0 => [.iload 1, .ifCond .lt 1, .iload 1, .aload 0, .getfield 197, .if_icmp .ge 1, .sipush 1, .goto 2]
  | 1 => [.sipush 0]
  | 2 => [.ireturn]
  | _ => []
def zP_38 : Nat → List Nat
  | 0 => [0, 1, 4, 5, 6, 9, 12, 13, 16]
  | 1 => [16, 17]
  | 2 => [17, 18]
  | _ => [18]
def zB_39 : Nat → List Instr
  | 0 => [.aload 0, .getfield 197, .sipush 40, .if_icmp .lt 1, .sipush (-4), .ireturn]
  | 1 => [.aload 0, .getfield 192, .aload 0, .getfield 197, .iload 1, .iastore, .aload 0, .getfield 193, .aload 0, .getfield 197, .iload 2, .iastore, .aload 0, .getfield 194, .aload 0, .getfield 197, .iload 3, .iastore, .aload 0, .getfield 195, .aload 0, .getfield 197, .iload 4, .iastore, .aload 0, .getfield 196, .aload 0, .getfield 197, .sipush (-9), .iastore, .aload 0, .dup, .getfield 197, .dup_x1, .sipush 1, .iadd, .putfield 197, .ireturn]
  | _ => []
def zP_39 : Nat → List Nat
  | 0 => [0, 1, 4, 6, 9, 11, 12]
  | 1 => [12, 13, 16, 17, 20, 21, 22, 23, 26, 27, 30, 31, 32, 33, 36, 37, 40, 41, 42, 43, 46, 47, 50, 52, 53, 54, 57, 58, 61, 63, 64, 65, 66, 69, 70, 71, 72, 75, 76]
  | _ => [76]
def zB_40 : Nat → List Instr
  | 0 => [.sipush 0, .istore 5]
  | 1 => [.iload 5, .aload 0, .getfield 197, .if_icmp .ge 4, .aload 0, .getfield 192, .iload 5, .iaload, .iload 1, .if_icmp .eq 2, .aload 0, .getfield 193, .iload 5, .iaload, .iload 2, .if_icmp .ne 3]
  | 2 => [.aload 0, .getfield 194, .iload 5, .iaload, .iload 4, .if_icmp .gt 3, .aload 0, .getfield 195, .iload 5, .iaload, .iload 3, .if_icmp .lt 3, .sipush 1, .ireturn]
  | 3 => [.iinc 5 1, .goto 1]
  | 4 => [.sipush 0, .ireturn]
  | _ => []
def zP_40 : Nat → List Nat
  | 0 => [0, 1, 3]
  | 1 => [3, 5, 6, 9, 12, 13, 16, 18, 19, 20, 23, 24, 27, 29, 30, 31, 34]
  | 2 => [34, 35, 38, 40, 41, 43, 46, 47, 50, 52, 53, 54, 57, 58, 59]
  | 3 => [59, 62, 65]
  | 4 => [65, 66, 67]
  | _ => [67]
def zB_41 : Nat → List Instr
  | 0 => [.sipush 0, .istore 4]
  | 1 => [.iload 4, .aload 0, .getfield 197, .if_icmp .ge 3, .aload 1, .iload 4, .iaload, .iload 2, .if_icmp .ne 2, .aload 0, .getfield 194, .iload 4, .iaload, .iload 3, .if_icmp .gt 2, .aload 0, .getfield 195, .iload 4, .iaload, .iload 3, .if_icmp .lt 2, .iload 4, .ireturn]
  | 2 => [.iinc 4 1, .goto 1]
  | 3 => [.sipush (-9), .ireturn]
  | _ => []
def zP_41 : Nat → List Nat
  | 0 => [0, 1, 3]
  | 1 => [3, 5, 6, 9, 12, 13, 15, 16, 17, 20, 21, 24, 26, 27, 28, 31, 32, 35, 37, 38, 39, 42, 44, 45]
  | 2 => [45, 48, 51]
  | 3 => [51, 53, 54]
  | _ => [54]
def zB_42 : Nat → List Instr
  | 0 => [.sipush 0, .istore 4]
  | 1 => [.iload 4, .aload 0, .getfield 197, .if_icmp .ge 3, .aload 0, .getfield 193, .iload 4, .iaload, .iload 1, .if_icmp .ne 2, .aload 0, .getfield 194, .iload 4, .iaload, .iload 2, .if_icmp .gt 2, .aload 0, .getfield 195, .iload 4, .iaload, .iload 3, .if_icmp .lt 2, .iload 4, .ireturn]
  | 2 => [.iinc 4 1, .goto 1]
  | 3 => [.sipush (-9), .ireturn]
  | _ => []
def zP_42 : Nat → List Nat
  | 0 => [0, 1, 3]
  | 1 => [3, 5, 6, 9, 12, 13, 16, 18, 19, 20, 23, 24, 27, 29, 30, 31, 34, 35, 38, 40, 41, 42, 45, 47, 48]
  | 2 => [48, 51, 54]
  | 3 => [54, 56, 57]
  | _ => [57]
def zB_43 : Nat → List Instr
  | 0 => [.aload 0, .getfield 259, .sipush 40, .if_icmp .lt 1, .sipush (-4), .ireturn]
  | 1 => [.aload 0, .getfield 256, .aload 0, .getfield 259, .iload 1, .iastore, .aload 0, .getfield 257, .aload 0, .getfield 259, .iload 2, .iastore, .aload 0, .getfield 258, .aload 0, .getfield 259, .iload 3, .iastore, .aload 0, .dup, .getfield 259, .dup_x1, .sipush 1, .iadd, .putfield 259, .ireturn]
  | _ => []
def zP_43 : Nat → List Nat
  | 0 => [0, 1, 4, 6, 9, 11, 12]
  | 1 => [12, 13, 16, 17, 20, 21, 22, 23, 26, 27, 30, 31, 32, 33, 36, 37, 40, 41, 42, 43, 44, 47, 48, 49, 50, 53, 54]
  | _ => [54]
def zB_44 : Nat → List Instr
  | 0 => [.sipush 0, .istore 3]
  | 1 => [.iload 3, .aload 0, .getfield 259, .if_icmp .ge 3, .aload 0, .getfield 256, .iload 3, .iaload, .iload 1, .if_icmp .ne 2, .aload 0, .getfield 257, .iload 3, .iaload, .iload 2, .if_icmp .ne 2, .sipush 1, .ireturn]
  | 2 => [.iinc 3 1, .goto 1]
  | 3 => [.sipush 0, .ireturn]
  | _ => []
def zP_44 : Nat → List Nat
  | 0 => [0, 1, 2]
  | 1 => [2, 3, 4, 7, 10, 11, 14, 15, 16, 17, 20, 21, 24, 25, 26, 27, 30, 31, 32]
  | 2 => [32, 35, 38]
  | 3 => [38, 39, 40]
  | _ => [40]
def zB_45 : Nat → List Instr
  | 0 => [.sipush (-9), .istore 3, .sipush 0, .istore 4]
  | 1 => [.iload 4, .aload 0, .getfield 259, .if_icmp .ge 4, .aload 0, .getfield 256, .iload 4, .iaload, .iload 1, .if_icmp .ne 3, .aload 0, .getfield 258, .iload 4, .iaload, .iload 2, .ishr, .sipush 1, .iand, .sipush 1, .if_icmp .ne 3, .iload 3, .sipush (-9), .if_icmp .eq 2, .aload 0, .getfield 257, .iload 4, .iaload, .iload 3, .if_icmp .ge 3]
  | 2 => [.aload 0, .getfield 257, .iload 4, .iaload, .istore 3]
  | 3 => [.iinc 4 1, .goto 1]
  | 4 => [.iload 3, .ireturn]
  | _ => []
def zP_45 : Nat → List Nat
  | 0 => [0, 2, 3, 4, 6]
  | 1 => [6, 8, 9, 12, 15, 16, 19, 21, 22, 23, 26, 27, 30, 32, 33, 34, 35, 36, 37, 38, 41, 42, 44, 47, 48, 51, 53, 54, 55, 58]
  | 2 => [58, 59, 62, 64, 65, 66]
  | 3 => [66, 69, 72]
  | 4 => [72, 73, 74]
  | _ => [74]
def zB_46 : Nat → List Instr
  | 0 => [.sipush 0, .istore 3, .sipush 0, .istore 4]
  | 1 => [.iload 4, .aload 0, .getfield 259, .if_icmp .ge 3, .aload 0, .getfield 256, .iload 4, .iaload, .iload 1, .if_icmp .ne 2, .aload 0, .getfield 257, .iload 4, .iaload, .iload 2, .if_icmp .ge 2, .iload 3, .aload 0, .getfield 257, .iload 4, .iaload, .sipush 1, .iadd, .invokestatic 254, .istore 3]
  | 2 => [.iinc 4 1, .goto 1]
  | 3 => [.iload 3, .ireturn]
  | _ => []
def zP_46 : Nat → List Nat
  | 0 => [0, 1, 2, 3, 5]
  | 1 => [5, 7, 8, 11, 14, 15, 18, 20, 21, 22, 25, 26, 29, 31, 32, 33, 36, 37, 38, 41, 43, 44, 45, 46, 49, 50]
  | 2 => [50, 53, 56]
  | 3 => [56, 57, 58]
  | _ => [58]
def zB_47 : Nat → List Instr
  | 0 => [.sipush 0, .istore 2, .sipush 0, .istore 3]
  | 1 => [.iload 3, .aload 0, .getfield 259, .if_icmp .ge 3, .aload 0, .getfield 256, .iload 3, .iaload, .iload 1, .if_icmp .ne 2, .aload 0, .iload 1, .aload 0, .getfield 257, .iload 3, .iaload, .invokevirtual 48, .aload 0, .getfield 258, .iload 3, .iaload, .sipush (-1), .ixor, .iand, .ifCond .eq 2, .iinc 2 1]
  | 2 => [.iinc 3 1, .goto 1]
  | 3 => [.iload 2, .ireturn]
  | _ => []
def zP_47 : Nat → List Nat
  | 0 => [0, 1, 2, 3, 4]
  | 1 => [4, 5, 6, 9, 12, 13, 16, 17, 18, 19, 22, 23, 24, 25, 28, 29, 30, 33, 34, 37, 38, 39, 40, 41, 42, 45, 48]
  | 2 => [48, 51, 54]
  | 3 => [54, 55, 56]
  | _ => [56]
def zB_48 : Nat → List Instr
  | 0 => [.sipush 0, .istore 3, .sipush 0, .istore 4]
  | 1 => [.iload 4, .aload 0, .getfield 259, .if_icmp .ge 3, .aload 0, .getfield 256, .iload 4, .iaload, .iload 1, .if_icmp .ne 2, .aload 0, .getfield 257, .iload 4, .iaload, .iload 2, .if_icmp .ge 2, .iload 3, .aload 0, .getfield 258, .iload 4, .iaload, .ior, .istore 3]
  | 2 => [.iinc 4 1, .goto 1]
  | 3 => [.iload 3, .ireturn]
  | _ => []
def zP_48 : Nat → List Nat
  | 0 => [0, 1, 2, 3, 5]
  | 1 => [5, 7, 8, 11, 14, 15, 18, 20, 21, 22, 25, 26, 29, 31, 32, 33, 36, 37, 38, 41, 43, 44, 45, 46]
  | 2 => [46, 49, 52]
  | 3 => [52, 53, 54]
  | _ => [54]
def zB_49 : Nat → List Instr
  | 0 => [.aload 0, .getfield 320, .sipush (-1), .invokestatic 253, .aload 0, .getfield 321, .sipush (-1), .invokestatic 253, .sipush 0, .istore 3]
  | 1 => [.iload 3, .aload 1, .getfield 197, .if_icmp .ge 3, .aload 1, .getfield 194, .iload 3, .iaload, .iload 2, .if_icmp .gt 2, .aload 1, .getfield 195, .iload 3, .iaload, .iload 2, .if_icmp .lt 2, .aload 0, .getfield 320, .aload 1, .getfield 192, .iload 3, .iaload, .aload 1, .getfield 193, .iload 3, .iaload, .iastore, .aload 0, .getfield 321, .aload 1, .getfield 193, .iload 3, .iaload, .aload 1, .getfield 192, .iload 3, .iaload, .iastore]
  | 2 => [.iinc 3 1, .goto 1]
  | 3 => [.return_]
  | _ => []
def zP_49 : Nat → List Nat
  | 0 => [0, 1, 4, 5, 8, 9, 12, 13, 16, 17, 18]
  | 1 => [18, 19, 20, 23, 26, 27, 30, 31, 32, 33, 36, 37, 40, 41, 42, 43, 46, 47, 50, 51, 54, 55, 56, 57, 60, 61, 62, 63, 64, 67, 68, 71, 72, 73, 74, 77, 78, 79, 80]
  | 2 => [80, 83, 86]
  | 3 => [86, 87]
  | _ => [87]
def zB_50 : Nat → List Instr
  | 0 => [.sipush 0, .istore 4, .aload 0, .sipush 0, .putfield 322, .aload 0, .sipush 0, .putfield 324, .sipush 0, .istore 5]
  | 1 => [.iload 5, .iload 2, .if_icmp .ge 6, .aload 1, .iload 5, .iaload, .istore 6, .iload 6, .sipush (-1), .if_icmp .lt 2, .iload 6, .iload 3, .if_icmp .ge 2, .iload 6, .ifCond .lt 3, .iload 4, .iload 6, .ishr, .sipush 1, .iand, .sipush 1, .if_icmp .ne 3]
  | 2 => [.sipush 0, .ireturn]
  | 3 => [.aload 0, .getfield 320, .iload 5, .iaload, .sipush (-1), .if_icmp .eq 4, .aload 0, .getfield 320, .iload 5, .iaload, .iload 6, .if_icmp .eq 4, .aload 0, .dup, .getfield 322, .sipush 1, .iload 5, .ishl, .ior, .putfield 322]
  | 4 => [.iload 6, .ifCond .lt 5, .iload 4, .sipush 1, .iload 6, .ishl, .ior, .istore 4, .aload 0, .iload 5, .iload 6, .invokevirtual 51]
  | 5 => [.iinc 5 1, .goto 1]
  | 6 => [.sipush 1, .ireturn]
  | _ => []
def zP_50 : Nat → List Nat
  | 0 => [0, 1, 3, 4, 5, 8, 9, 10, 13, 14, 16]
  | 1 => [16, 18, 19, 22, 23, 25, 26, 28, 30, 31, 34, 36, 37, 40, 42, 45, 47, 49, 50, 51, 52, 53, 56]
  | 2 => [56, 57, 58]
  | 3 => [58, 59, 62, 64, 65, 66, 69, 70, 73, 75, 76, 78, 81, 82, 83, 86, 87, 89, 90, 91, 94]
  | 4 => [94, 96, 99, 101, 102, 104, 105, 106, 108, 109, 111, 113, 116]
  | 5 => [116, 119, 122]
  | 6 => [122, 123, 124]
  | _ => [124]
def zB_51 : Nat → List Instr
  | 0 => [.aload 0, .getfield 320, .iload 1, .iaload, .iload 2, .if_icmp .ne 1, .return_]
  | 1 => [.aload 0, .getfield 320, .iload 1, .iaload, .sipush (-1), .if_icmp .ne 2, .sipush 0, .goto 3]
  | 2 => [.sipush 1, .iload 1, .ishl]
  | 3 => [.istore 3, .aload 0, .getfield 321, .iload 2, .iaload, .sipush (-1), .if_icmp .ne 4, .sipush 0, .goto 5]
  | 4 => [.sipush 1, .aload 0, .getfield 321, .iload 2, .iaload, .ishl]
  | 5 => [.istore 4, .aload 0, .getfield 323, .aload 0, .getfield 324, .iload 3, .iload 4, .ior, .iastore, .aload 0, .dup, .getfield 324, .sipush 1, .iadd, .putfield 324, .return_]
  | _ => []
def zP_51 : Nat → List Nat
  | 0 => [0, 1, 4, 5, 6, 7, 10, 11]
  | 1 => [11, 12, 15, 16, 17, 18, 21, 22, 25]
  | 2 => [25, 26, 27, 28]
  | 3 => [28, 29, 30, 33, 34, 35, 36, 39, 40, 43]
  | 4 => [43, 44, 45, 48, 49, 50, 51]
  | 5 => [51, 53, 54, 57, 58, 61, 62, 64, 65, 66, 67, 68, 71, 72, 73, 76, 77]
  | _ => [77]
def zB_52 : Nat → List Instr
  | 0 => [.aload 0, .getfield 322, .invokestatic 251, .istore 2, .iload 2, .iload 1, .invokestatic 53, .istore 3, .sipush 0, .istore 4, .iload 3, .ifCond .le 1, .iload 3, .iload 1, .imul, .iload 2, .isub, .istore 5, .iload 5, .aload 0, .iload 3, .sipush 1, .isub, .iload 1, .imul, .invokevirtual 54, .invokestatic 255, .istore 4]
  | 1 => [.iload 3, .aload 0, .getfield 324, .iload 4, .isub, .iload 1, .invokestatic 53, .iadd, .ireturn]
  | _ => []
def zP_52 : Nat → List Nat
  | 0 => [0, 1, 4, 7, 8, 9, 10, 13, 14, 15, 17, 18, 21, 22, 23, 24, 25, 26, 28, 30, 31, 32, 33, 34, 35, 36, 39, 42, 44]
  | 1 => [44, 45, 46, 49, 51, 52, 53, 56, 57, 58]
  | _ => [58]
def zB_53 : Nat → List Instr
  | 0 => [.iload 1, .sipush 1, .if_icmp .ge 1, .sipush 0, .goto 2]
  | 1 => [.iload 0, .iload 1, .iadd, .sipush 1, .isub, .iload 1, .idiv]
  | 2 => [.ireturn]
  | _ => []
def zP_53 : Nat → List Nat
  | 0 => [0, 1, 2, 5, 6, 9]
  | 1 => [9, 10, 11, 12, 13, 14, 15, 16]
  | 2 => [16, 17]
  | _ => [17]
def zB_54 : Nat → List Instr
  | 0 => [.sipush 0, .istore 2, .sipush 0, .istore 3]
  | 1 => [.iload 3, .sipush 1024, .if_icmp .ge 3, .iload 3, .aload 0, .getfield 322, .sipush (-1), .ixor, .iand, .ifCond .ne 2, .iload 3, .invokestatic 251, .iload 1, .if_icmp .ne 2, .iload 2, .aload 0, .iload 3, .invokevirtual 55, .invokestatic 254, .istore 2]
  | 2 => [.iinc 3 1, .goto 1]
  | 3 => [.iload 2, .ireturn]
  | _ => []
def zP_54 : Nat → List Nat
  | 0 => [0, 1, 2, 3, 4]
  | 1 => [4, 5, 8, 11, 12, 13, 16, 17, 18, 19, 22, 23, 26, 27, 30, 31, 32, 33, 36, 39, 40]
  | 2 => [40, 43, 46]
  | 3 => [46, 47, 48]
  | _ => [48]
def zB_55 : Nat → List Instr
  | 0 => [.sipush 0, .istore 2, .sipush 0, .istore 3]
  | 1 => [.iload 3, .aload 0, .getfield 324, .if_icmp .ge 3, .aload 0, .getfield 323, .iload 3, .iaload, .iload 1, .sipush (-1), .ixor, .iand, .ifCond .ne 2, .iinc 2 1]
  | 2 => [.iinc 3 1, .goto 1]
  | 3 => [.iload 2, .ireturn]
  | _ => []
def zP_55 : Nat → List Nat
  | 0 => [0, 1, 2, 3, 4]
  | 1 => [4, 5, 6, 9, 12, 13, 16, 17, 18, 19, 20, 21, 22, 25, 28]
  | 2 => [28, 31, 34]
  | 3 => [34, 35, 36]
  | _ => [36]
def zB_56 : Nat → List Instr
  | 0 => [.aload 0, .aload 1, .iload 2, .iload 3, .aload 0, .getfield 384, .aload 0, .getfield 385, .invokevirtual 57, .return_]
  | _ => []
def zP_56 : Nat → List Nat
  | 0 => [0, 1, 2, 3, 4, 5, 8, 9, 12, 15, 16]
  | _ => [16]
def zB_57 : Nat → List Instr
  | 0 => [.aload 0, .sipush 0, .putfield 387, .aload 0, .sipush 0, .putfield 388, .iload 2, .iload 5, .iload 3, .isub, .invokestatic 255, .sipush 1, .isub, .istore 6, .sipush 0, .iload 3, .ineg, .invokestatic 254, .istore 7]
  | 1 => [.iload 7, .iload 6, .if_icmp .ge 4, .aload 1, .iload 7, .invokestatic 58, .aload 4, .iload 3, .iload 7, .iadd, .invokestatic 58, .if_icmp .ne 2, .aload 0, .dup, .getfield 387, .sipush 1, .iadd, .putfield 387, .goto 3]
  | 2 => [.aload 0, .dup, .getfield 388, .sipush 1, .iadd, .putfield 388]
  | 3 => [.iinc 7 1, .goto 1]
  | 4 => [.return_]
  | _ => []
def zP_57 : Nat → List Nat
  | 0 => [0, 1, 2, 5, 6, 7, 10, 11, 13, 14, 15, 18, 19, 20, 22, 23, 24, 25, 28, 30]
  | 1 => [30, 32, 34, 37, 38, 40, 43, 45, 46, 48, 49, 52, 55, 56, 57, 60, 61, 62, 65, 68]
  | 2 => [68, 69, 70, 73, 74, 75, 78]
  | 3 => [78, 81, 84]
  | 4 => [84, 85]
  | _ => [85]
def zB_58 : Nat → List Instr
  | 0 => [.aload 0, .iload 1, .iaload, .aload 0, .iload 1, .sipush 1, .iadd, .iaload, .if_icmp .ne 1, .sipush 0, .ireturn]
  | 1 => [.aload 0, .iload 1, .iaload, .aload 0, .iload 1, .sipush 1, .iadd, .iaload, .if_icmp .ge 2, .sipush 1, .goto 3]
  | 2 => [.sipush (-1)]
  | 3 => [.ireturn]
  | _ => []
def zP_58 : Nat → List Nat
  | 0 => [0, 1, 2, 3, 4, 5, 6, 7, 8, 11, 12, 13]
  | 1 => [13, 14, 15, 16, 17, 18, 19, 20, 21, 24, 25, 28]
  | 2 => [28, 29]
  | 3 => [29, 30]
  | _ => [30]
def zB_59 : Nat → List Instr
  | 0 => [.sipush 0, .istore 3, .sipush 1, .iload 2, .isub, .istore 4]
  | 1 => [.iload 4, .aload 0, .getfield 385, .if_icmp .ge 4, .aload 0, .aload 1, .iload 2, .iload 4, .invokevirtual 56, .aload 0, .getfield 387, .aload 0, .getfield 388, .iadd, .sipush 5, .if_icmp .lt 3, .iload 3, .ifCond .eq 2, .aload 0, .getfield 387, .aload 0, .getfield 388, .isub, .aload 0, .getfield 390, .if_icmp .le 3]
  | 2 => [.sipush 1, .istore 3, .aload 0, .iload 4, .putfield 389, .aload 0, .aload 0, .getfield 387, .aload 0, .getfield 388, .isub, .putfield 390]
  | 3 => [.iinc 4 1, .goto 1]
  | 4 => [.iload 3, .ireturn]
  | _ => []
def zP_59 : Nat → List Nat
  | 0 => [0, 1, 2, 3, 4, 5, 7]
  | 1 => [7, 9, 10, 13, 16, 17, 18, 19, 21, 24, 25, 28, 29, 32, 33, 34, 37, 38, 41, 42, 45, 46, 49, 50, 51, 54, 57]
  | 2 => [57, 58, 59, 60, 62, 65, 66, 67, 70, 71, 74, 75, 78]
  | 3 => [78, 81, 84]
  | 4 => [84, 85, 86]
  | _ => [86]
def zB_60 : Nat → List Instr
  | 0 => [.aload 1, .getfield 643, .iload 2, .iaload, .istore 4, .aload 1, .getfield 643, .iload 3, .iaload, .istore 5, .sipush 1, .iload 4, .isub, .istore 6]
  | 1 => [.iload 6, .iload 5, .if_icmp .ge 3, .aload 0, .aload 1, .getfield 644, .iload 2, .aaload, .iload 4, .iload 6, .aload 1, .getfield 644, .iload 3, .aaload, .iload 5, .invokevirtual 57, .aload 0, .getfield 388, .ifCond .ne 2, .aload 0, .getfield 387, .sipush 5, .if_icmp .lt 2, .sipush 1, .ireturn]
  | 2 => [.iinc 6 1, .goto 1]
  | 3 => [.sipush 0, .ireturn]
  | _ => []
def zP_60 : Nat → List Nat
  | 0 => [0, 1, 4, 5, 6, 8, 9, 12, 13, 14, 16, 17, 19, 20, 22]
  | 1 => [22, 24, 26, 29, 30, 31, 34, 35, 36, 38, 40, 41, 44, 45, 46, 48, 51, 52, 55, 58, 59, 62, 63, 66, 67, 68]
  | 2 => [68, 71, 74]
  | 3 => [74, 75, 76]
  | _ => [76]
def zB_61 : Nat → List Instr
  | 0 => [.iload 1, .ifCond .lt 1, .iload 1, .aload 0, .getfield 452, .if_icmp .ge 1, .sipush 1, .goto 2]
  | 1 => [.sipush 0]
  | 2 => [.ireturn]
  | _ => []
def zP_61 : Nat → List Nat
  | 0 => [0, 1, 4, 5, 6, 9, 12, 13, 16]
  | 1 => [16, 17]
  | 2 => [17, 18]
  | _ => [18]
def zB_62 : Nat → List Instr
  | 0 => [.aload 0, .getfield 452, .sipush 10, .if_icmp .lt 1, .sipush (-4), .ireturn]
  | 1 => [.aload 0, .getfield 448, .aload 0, .getfield 452, .iload 1, .iastore, .aload 0, .dup, .getfield 452, .dup_x1, .sipush 1, .iadd, .putfield 452, .ireturn]
  | _ => []
def zP_62 : Nat → List Nat
  | 0 => [0, 1, 4, 6, 9, 11, 12]
  | 1 => [12, 13, 16, 17, 20, 21, 22, 23, 24, 27, 28, 29, 30, 33, 34]
  | _ => [34]
def zB_63 : Nat → List Instr
  | 0 => [.aload 0, .getfield 449, .iload 1, .iaload, .aload 0, .getfield 450, .iload 1, .iaload, .ior, .ireturn]
  | _ => []
def zP_63 : Nat → List Nat
  | 0 => [0, 1, 4, 5, 6, 7, 10, 11, 12, 13, 14]
  | _ => [14]
def zB_64 : Nat → List Instr
  | 0 => [.aload 0, .getfield 451, .iload 1, .aaload, .iload 2, .iaload, .ifCond .le 1, .aload 0, .iload 1, .invokevirtual 63, .iload 3, .ishr, .sipush 1, .iand, .ifCond .ne 1, .sipush 1, .goto 2]
  | 1 => [.sipush 0]
  | 2 => [.ireturn]
  | _ => []
def zP_64 : Nat → List Nat
  | 0 => [0, 1, 4, 5, 6, 7, 8, 11, 12, 13, 16, 17, 18, 19, 20, 23, 24, 27]
  | 1 => [27, 28]
  | 2 => [28, 29]
  | _ => [29]
def zB_65 : Nat → List Instr
  | 0 => [.iload 1, .ifCond .lt 1, .iload 1, .sipush 4, .if_icmp .ge 1, .sipush 1, .goto 2]
  | 1 => [.sipush 0]
  | 2 => [.ireturn]
  | _ => []
def zP_65 : Nat → List Nat
  | 0 => [0, 1, 4, 5, 6, 9, 10, 13]
  | 1 => [13, 14]
  | 2 => [14, 15]
  | _ => [15]
def zB_66 : Nat → List Instr
  | 0 => [.aload 0, .getfield 512, .iload 1, .iload 2, .iastore, .aload 0, .getfield 513, .iload 1, .iload 3, .iastore, .aload 0, .getfield 514, .iload 1, .aaload, .sipush 0, .invokestatic 253, .return_]
  | _ => []
def zP_66 : Nat → List Nat
  | 0 => [0, 1, 4, 5, 6, 7, 8, 11, 12, 13, 14, 15, 18, 19, 20, 21, 24, 25]
  | _ => [25]
def zB_67 : Nat → List Instr
  | 0 => [.iload 0, .lookupswitch 3 #[(0, 1), (1, 2)]]
  | 1 => [.iload 1, .i2b, .ireturn]
  | 2 => [.iload 1, .i2s, .ireturn]
  | 3 => [.iload 1, .ireturn]
  | _ => []
def zP_67 : Nat → List Nat
  | 0 => [0, 1, 28]
  | 1 => [28, 29, 30, 31]
  | 2 => [31, 32, 33, 34]
  | 3 => [34, 35, 36]
  | _ => [36]
def zB_68 : Nat → List Instr
  | 0 => [.aload 0, .getfield 512, .iload 1, .iaload, .sipush (-1), .if_icmp .ne 1, .sipush 1, .ireturn]
  | 1 => [.iload 3, .ifCond .ge 2, .sipush 4, .ireturn]
  | 2 => [.iload 2, .ifCond .lt 3, .iload 2, .aload 0, .getfield 513, .iload 1, .iaload, .if_icmp .gt 3, .iload 3, .aload 0, .getfield 513, .iload 1, .iaload, .iload 2, .isub, .if_icmp .le 4]
  | 3 => [.sipush 3, .goto 5]
  | 4 => [.sipush 0]
  | 5 => [.ireturn]
  | _ => []
def zP_68 : Nat → List Nat
  | 0 => [0, 1, 4, 5, 6, 7, 10, 11, 12]
  | 1 => [12, 13, 16, 17, 18]
  | 2 => [18, 19, 22, 23, 24, 27, 28, 29, 32, 33, 34, 37, 38, 39, 40, 41, 44]
  | 3 => [44, 45, 48]
  | 4 => [48, 49]
  | 5 => [49, 50]
  | _ => [50]
def zB_69 : Nat → List Instr
  | 0 => [.aload 0, .getfield 512, .iload 1, .iaload, .sipush (-1), .if_icmp .eq 1, .aload 0, .getfield 512, .iload 1, .iaload, .iload 2, .if_icmp .eq 1, .sipush 2, .ireturn]
  | 1 => [.aload 0, .iload 1, .iload 3, .iload 4, .invokevirtual 68, .istore 5, .iload 5, .ifCond .ne 2, .aload 0, .getfield 514, .iload 1, .aaload, .iload 3, .aload 0, .getfield 515, .sipush 0, .iload 4, .invokestatic 999]
  | 2 => [.iload 5, .ireturn]
  | _ => []
def zP_69 : Nat → List Nat
  | 0 => [0, 1, 4, 5, 6, 7, 10, 11, 14, 15, 16, 17, 20, 21, 22]
  | 1 => [22, 23, 24, 25, 27, 30, 32, 34, 37, 38, 41, 42, 43, 44, 45, 48, 49, 51, 54]
  | 2 => [54, 56, 57]
  | _ => [57]
def zB_70 : Nat → List Instr
  | 0 => [.sipush 0, .istore 4]
  | 1 => [.iload 4, .iload 1, .if_icmp .ge 4, .iload 4, .aload 0, .getfield 515, .arraylength, .if_icmp .ge 4, .aload 0, .getfield 515, .iload 4, .iaload, .iload 2, .if_icmp .lt 2, .aload 0, .getfield 515, .iload 4, .iaload, .iload 3, .if_icmp .le 3]
  | 2 => [.sipush 0, .ireturn]
  | 3 => [.iinc 4 1, .goto 1]
  | 4 => [.sipush 1, .ireturn]
  | _ => []
def zP_70 : Nat → List Nat
  | 0 => [0, 1, 3]
  | 1 => [3, 5, 6, 9, 11, 12, 15, 16, 19, 20, 23, 25, 26, 27, 30, 31, 34, 36, 37, 38, 41]
  | 2 => [41, 42, 43]
  | 3 => [43, 46, 49]
  | 4 => [49, 50, 51]
  | _ => [51]
def zB_71 : Nat → List Instr
  | 0 => [.sipush 0, .istore 5, .sipush 0, .istore 6, .sipush 0, .istore 7, .sipush 0, .istore 8]
  | 1 => [.iload 8, .iload 1, .if_icmp .ge 7, .iload 8, .aload 0, .getfield 515, .arraylength, .if_icmp .ge 7, .aload 0, .getfield 515, .iload 8, .iaload, .istore 9, .iload 9, .iload 2, .if_icmp .lt 2, .iload 9, .iload 3, .if_icmp .gt 2, .sipush 0, .istore 6, .sipush 0, .istore 7, .goto 6]
  | 2 => [.iinc 6 1, .iload 7, .iload 9, .sipush (-1), .if_icmp .eq 3, .sipush 1, .goto 4]
  | 3 => [.sipush 0]
  | 4 => [.ior, .istore 7, .iload 7, .ifCond .ne 5, .iload 4, .ifCond .ne 6]
  | 5 => [.iload 5, .iload 6, .invokestatic 254, .istore 5]
  | 6 => [.iinc 8 1, .goto 1]
  | 7 => [.iload 5, .ireturn]
  | _ => []
def zP_71 : Nat → List Nat
  | 0 => [0, 1, 3, 4, 6, 7, 9, 10, 12]
  | 1 => [12, 14, 15, 18, 20, 21, 24, 25, 28, 29, 32, 34, 35, 37, 39, 40, 43, 45, 46, 49, 50, 52, 53, 55, 58]
  | 2 => [58, 61, 63, 65, 66, 69, 70, 73]
  | 3 => [73, 74]
  | 4 => [74, 75, 77, 79, 82, 84, 87]
  | 5 => [87, 89, 91, 94, 96]
  | 6 => [96, 99, 102]
  | 7 => [102, 104, 105]
  | _ => [105]
def zB_72 : Nat → List Instr
  | 0 => [.iload 1, .ifCond .lt 1, .iload 1, .aload 0, .getfield 579, .if_icmp .ge 1, .sipush 1, .goto 2]
  | 1 => [.sipush 0]
  | 2 => [.ireturn]
  | _ => []
def zP_72 : Nat → List Nat
  | 0 => [0, 1, 4, 5, 6, 9, 12, 13, 16]
  | 1 => [16, 17]
  | 2 => [17, 18]
  | _ => [18]
def zB_73 : Nat → List Instr
  | 0 => [.aload 0, .getfield 579, .sipush 40, .if_icmp .lt 1, .sipush (-4), .ireturn]
  | 1 => [.aload 0, .getfield 576, .aload 0, .getfield 579, .iload 1, .iastore, .aload 0, .getfield 577, .aload 0, .getfield 579, .iload 2, .iastore, .aload 0, .getfield 578, .aload 0, .getfield 579, .iload 3, .iastore, .aload 0, .dup, .getfield 579, .dup_x1, .sipush 1, .iadd, .putfield 579, .ireturn]
  | _ => []
def zP_73 : Nat → List Nat
  | 0 => [0, 1, 4, 6, 9, 11, 12]
  | 1 => [12, 13, 16, 17, 20, 21, 22, 23, 26, 27, 30, 31, 32, 33, 36, 37, 40, 41, 42, 43, 44, 47, 48, 49, 50, 53, 54]
  | _ => [54]
def zB_74 : Nat → List Instr
  | 0 => [.sipush 0, .istore 4, .sipush 0, .istore 5]
  | 1 => [.iload 5, .aload 0, .getfield 579, .if_icmp .ge 3, .aload 0, .getfield 576, .iload 5, .iaload, .iload 1, .if_icmp .ne 2, .aload 0, .getfield 577, .iload 5, .iaload, .iload 2, .if_icmp .lt 2, .aload 0, .getfield 577, .iload 5, .iaload, .iload 3, .if_icmp .gt 2, .iinc 4 1]
  | 2 => [.iinc 5 1, .goto 1]
  | 3 => [.iload 4, .ireturn]
  | _ => []
def zP_74 : Nat → List Nat
  | 0 => [0, 1, 3, 4, 6]
  | 1 => [6, 8, 9, 12, 15, 16, 19, 21, 22, 23, 26, 27, 30, 32, 33, 34, 37, 38, 41, 43, 44, 45, 48, 51]
  | 2 => [51, 54, 57]
  | 3 => [57, 59, 60]
  | _ => [60]
def zB_75 : Nat → List Instr
  | 0 => [.aload 0, .sipush 0, .putfield 582, .aload 0, .sipush 0, .putfield 583, .aload 0, .getfield 584, .sipush 0, .invokestatic 253, .aload 0, .getfield 579, .sipush 1, .isub, .istore 3]
  | 1 => [.iload 3, .ifCond .lt 4, .aload 0, .getfield 577, .iload 3, .iaload, .iload 1, .if_icmp .ne 3, .aload 2, .getfield 642, .aload 0, .getfield 576, .iload 3, .iaload, .iaload, .istore 4, .aload 0, .getfield 578, .iload 3, .iaload, .sipush (-1), .if_icmp .ne 2, .aload 0, .iload 4, .invokevirtual 76, .goto 3]
  | 2 => [.aload 0, .getfield 584, .aload 0, .getfield 578, .iload 3, .iaload, .dup2, .iaload, .iload 4, .iadd, .iastore]
  | 3 => [.iinc 3 (-1), .goto 1]
  | 4 => [.aload 0, .invokevirtual 77, .return_]
  | _ => []
def zP_75 : Nat → List Nat
  | 0 => [0, 1, 2, 5, 6, 7, 10, 11, 14, 15, 18, 19, 22, 23, 24, 25]
  | 1 => [25, 26, 29, 30, 33, 34, 35, 36, 39, 40, 43, 44, 47, 48, 49, 50, 52, 53, 56, 57, 58, 59, 62, 63, 65, 68, 71]
  | 2 => [71, 72, 75, 76, 79, 80, 81, 82, 83, 85, 86, 87]
  | 3 => [87, 90, 93]
  | 4 => [93, 94, 97, 98]
  | _ => [98]
def zB_76 : Nat → List Instr
  | 0 => [.sipush 1, .aload 0, .getfield 583, .ishl, .istore 2, .sipush 2, .iload 2, .imul, .aload 0, .getfield 581, .arraylength, .if_icmp .le 1, .return_]
  | 1 => [.sipush 0, .istore 3]
  | 2 => [.iload 3, .iload 2, .if_icmp .ge 3, .aload 0, .getfield 581, .iload 2, .iload 3, .iadd, .aload 0, .getfield 581, .iload 3, .iaload, .iload 1, .iadd, .iastore, .iinc 3 1, .goto 2]
  | 3 => [.aload 0, .dup, .getfield 582, .iload 1, .iadd, .putfield 582, .aload 0, .dup, .getfield 583, .sipush 1, .iadd, .putfield 583, .return_]
  | _ => []
def zP_76 : Nat → List Nat
  | 0 => [0, 1, 2, 5, 6, 7, 8, 9, 10, 11, 14, 15, 18, 19]
  | 1 => [19, 20, 21]
  | 2 => [21, 22, 23, 26, 27, 30, 31, 32, 33, 34, 37, 38, 39, 40, 41, 42, 45, 48]
  | 3 => [48, 49, 50, 53, 54, 55, 58, 59, 60, 63, 64, 65, 68, 69]
  | _ => [69]
def zB_77 : Nat → List Instr
  | 0 => [.aload 0, .sipush 0, .putfield 586, .aload 0, .aload 0, .sipush 0, .invokevirtual 78, .putfield 585, .sipush 1, .istore 1]
  | 1 => [.iload 1, .sipush 1, .aload 0, .getfield 583, .ishl, .if_icmp .ge 3, .aload 0, .iload 1, .invokevirtual 78, .istore 2, .iload 2, .aload 0, .getfield 585, .if_icmp .ge 2, .aload 0, .iload 2, .putfield 585, .aload 0, .iload 1, .putfield 586]
  | 2 => [.iinc 1 1, .goto 1]
  | 3 => [.return_]
  | _ => []
def zP_77 : Nat → List Nat
  | 0 => [0, 1, 2, 5, 6, 7, 8, 11, 14, 15, 16]
  | 1 => [16, 17, 18, 19, 22, 23, 26, 27, 28, 31, 32, 33, 34, 37, 40, 41, 42, 45, 46, 47, 50]
  | 2 => [50, 53, 56]
  | 3 => [56, 57]
  | _ => [57]
def zB_78 : Nat → List Instr
  | 0 => [.aload 0, .getfield 584, .sipush 0, .iaload, .aload 0, .getfield 582, .iadd, .aload 0, .getfield 581, .iload 1, .iaload, .isub, .aload 0, .getfield 584, .sipush 1, .iaload, .aload 0, .getfield 581, .iload 1, .iaload, .iadd, .invokestatic 254, .ireturn]
  | _ => []
def zP_78 : Nat → List Nat
  | 0 => [0, 1, 4, 5, 6, 7, 10, 11, 12, 15, 16, 17, 18, 19, 22, 23, 24, 25, 28, 29, 30, 31, 34, 35]
  | _ => [35]
def zB_79 : Nat → List Instr
  | 0 => [.aload 0, .getfield 578, .iload 1, .iaload, .sipush (-1), .if_icmp .eq 1, .aload 0, .getfield 578, .iload 1, .iaload, .ireturn]
  | 1 => [.sipush 0, .istore 2, .iload 1, .sipush 1, .iadd, .istore 3]
  | 2 => [.iload 3, .aload 0, .getfield 579, .if_icmp .ge 4, .aload 0, .getfield 577, .iload 3, .iaload, .aload 0, .getfield 577, .iload 1, .iaload, .if_icmp .ne 3, .aload 0, .getfield 578, .iload 3, .iaload, .sipush (-1), .if_icmp .ne 3, .iinc 2 1]
  | 3 => [.iinc 3 1, .goto 2]
  | 4 => [.aload 0, .getfield 586, .iload 2, .ishr, .sipush 1, .iand, .ireturn]
  | _ => []
def zP_79 : Nat → List Nat
  | 0 => [0, 1, 4, 5, 6, 7, 10, 11, 14, 15, 16, 17]
  | 1 => [17, 18, 19, 20, 21, 22, 23]
  | 2 => [23, 24, 25, 28, 31, 32, 35, 36, 37, 38, 41, 42, 43, 46, 47, 50, 51, 52, 53, 56, 59]
  | 3 => [59, 62, 65]
  | 4 => [65, 66, 69, 70, 71, 72, 73, 74]
  | _ => [74]
def zB_80 : Nat → List Instr
  | 0 => [.sipush 0, .istore 2, .sipush 0, .istore 3]
  | 1 => [.iload 3, .aload 0, .getfield 579, .if_icmp .ge 3, .aload 0, .iload 3, .invokevirtual 81, .ifCond .eq 2, .aload 0, .aload 0, .getfield 577, .iload 3, .iaload, .aload 1, .invokevirtual 75, .aload 0, .getfield 585, .aload 0, .getfield 580, .if_icmp .le 2, .iinc 2 1]
  | 2 => [.iinc 3 1, .goto 1]
  | 3 => [.iload 2, .ireturn]
  | _ => []
def zP_80 : Nat → List Nat
  | 0 => [0, 1, 2, 3, 4]
  | 1 => [4, 5, 6, 9, 12, 13, 14, 17, 20, 21, 22, 25, 26, 27, 28, 31, 32, 35, 36, 39, 42, 45]
  | 2 => [45, 48, 51]
  | 3 => [51, 52, 53]
  | _ => [53]
def zB_81 : Nat → List Instr
  | 0 => [.sipush 0, .istore 2]
  | 1 => [.iload 2, .iload 1, .if_icmp .ge 3, .aload 0, .getfield 577, .iload 2, .iaload, .aload 0, .getfield 577, .iload 1, .iaload, .if_icmp .ne 2, .sipush 0, .ireturn]
  | 2 => [.iinc 2 1, .goto 1]
  | 3 => [.sipush 1, .ireturn]
  | _ => []
def zP_81 : Nat → List Nat
  | 0 => [0, 1, 2]
  | 1 => [2, 3, 4, 7, 8, 11, 12, 13, 14, 17, 18, 19, 22, 23, 24]
  | 2 => [24, 27, 30]
  | 3 => [30, 31, 32]
  | _ => [32]
def zB_82 : Nat → List Instr
  | 0 => [.iload 1, .ifCond .lt 1, .iload 1, .aload 0, .getfield 645, .if_icmp .ge 1, .sipush 1, .goto 2]
  | 1 => [.sipush 0]
  | 2 => [.ireturn]
  | _ => []
def zP_82 : Nat → List Nat
  | 0 => [0, 1, 4, 5, 6, 9, 12, 13, 16]
  | 1 => [16, 17]
  | 2 => [17, 18]
  | _ => [18]
def zB_83 : Nat → List Instr
  | 0 => [.aload 0, .getfield 645, .sipush 10, .if_icmp .lt 1, .sipush (-4), .ireturn]
  | 1 => [.aload 0, .getfield 640, .aload 0, .getfield 645, .iload 1, .iastore, .aload 0, .getfield 641, .aload 0, .getfield 645, .iload 2, .iastore, .aload 0, .getfield 642, .aload 0, .getfield 645, .iload 3, .iastore, .aload 0, .dup, .getfield 645, .dup_x1, .sipush 1, .iadd, .putfield 645, .ireturn]
  | _ => []
def zP_83 : Nat → List Nat
  | 0 => [0, 1, 4, 6, 9, 11, 12]
  | 1 => [12, 13, 16, 17, 20, 21, 22, 23, 26, 27, 30, 31, 32, 33, 36, 37, 40, 41, 42, 43, 44, 47, 48, 49, 50, 53, 54]
  | _ => [54]
def zB_84 : Nat → List Instr
  | 0 => [.iload 1, .sipush 0, .sipush 2, .invokestatic 133, .ifCond .eq 1, .iload 2, .sipush 0, .sipush 9, .invokestatic 133, .ifCond .eq 1, .iload 3, .sipush 1, .sipush 1000000, .invokestatic 133, .ifCond .ne 2]
  | 1 => [.sipush (-2), .ireturn]
  | 2 => [.aload 0, .getfield 704, .iload 1, .iload 2, .iload 3, .invokevirtual 83, .ireturn]
  | _ => []
def zP_84 : Nat → List Nat
  | 0 => [0, 1, 2, 3, 6, 9, 10, 11, 13, 16, 19, 20, 21, 23, 26, 29]
  | 1 => [29, 31, 32]
  | 2 => [32, 33, 36, 37, 38, 39, 42, 43]
  | _ => [43]
def zB_85 : Nat → List Instr
  | 0 => [.iload 1, .sipush 0, .sipush 99, .invokestatic 133, .ifCond .ne 1, .sipush (-2), .ireturn]
  | 1 => [.aload 0, .getfield 705, .iload 1, .invokevirtual 62, .ireturn]
  | _ => []
def zP_85 : Nat → List Nat
  | 0 => [0, 1, 2, 4, 7, 10, 12, 13]
  | 1 => [13, 14, 17, 18, 21, 22]
  | _ => [22]
def zB_86 : Nat → List Instr
  | 0 => [.aload 0, .getfield 705, .iload 1, .invokevirtual 61, .ifCond .eq 1, .aload 0, .getfield 704, .iload 2, .invokevirtual 82, .ifCond .ne 2]
  | 1 => [.sipush (-1), .ireturn]
  | 2 => [.iload 3, .sipush 0, .sipush 99, .invokestatic 133, .ifCond .ne 3, .sipush (-2), .ireturn]
  | 3 => [.aload 0, .getfield 705, .getfield 451, .iload 1, .aaload, .iload 2, .iaload, .istore 4, .aload 0, .getfield 705, .getfield 451, .iload 1, .aaload, .iload 2, .iload 3, .iastore, .iload 4, .ireturn]
  | _ => []
def zP_86 : Nat → List Nat
  | 0 => [0, 1, 4, 5, 8, 11, 12, 15, 16, 19, 22]
  | 1 => [22, 23, 24]
  | 2 => [24, 25, 26, 28, 31, 34, 36, 37]
  | 3 => [37, 38, 41, 44, 45, 46, 47, 48, 50, 51, 54, 57, 58, 59, 60, 61, 62, 64, 65]
  | _ => [65]
def zB_87 : Nat → List Instr
  | 0 => [.aload 0, .getfield 705, .iload 1, .invokevirtual 61, .ifCond .ne 1, .sipush (-1), .ireturn]
  | 1 => [.iload 2, .sipush 0, .sipush 9, .invokestatic 133, .ifCond .ne 2, .sipush (-2), .ireturn]
  | 2 => [.aload 0, .getfield 705, .getfield 449, .iload 1, .iaload, .istore 4, .aload 0, .getfield 705, .getfield 449, .iload 1, .iload 3, .ifCond .eq 3, .iload 4, .sipush 1, .iload 2, .ishl, .ior, .goto 4]
  | 3 => [.iload 4, .sipush 1, .iload 2, .ishl, .sipush (-1), .ixor, .iand]
  | 4 => [.iastore, .aload 0, .getfield 705, .getfield 449, .iload 1, .iaload, .iload 4, .if_icmp .ne 5, .sipush 0, .goto 6]
  | 5 => [.sipush 1]
  | 6 => [.ireturn]
  | _ => []
def zP_87 : Nat → List Nat
  | 0 => [0, 1, 4, 5, 8, 11, 12, 13]
  | 1 => [13, 14, 15, 17, 20, 23, 25, 26]
  | 2 => [26, 27, 30, 33, 34, 35, 37, 38, 41, 44, 45, 46, 49, 51, 52, 53, 54, 55, 58]
  | 3 => [58, 60, 61, 62, 63, 64, 65, 66]
  | 4 => [66, 67, 68, 71, 74, 75, 76, 78, 81, 82, 85]
  | 5 => [85, 86]
  | 6 => [86, 87]
  | _ => [87]
def zB_88 : Nat → List Instr
  | 0 => [.aload 0, .getfield 705, .iload 1, .invokevirtual 61, .ifCond .eq 1, .aload 0, .getfield 704, .iload 2, .invokevirtual 82, .ifCond .ne 2]
  | 1 => [.sipush (-1), .ireturn]
  | 2 => [.aload 0, .iload 1, .iload 2, .invokevirtual 139, .ifCond .eq 3, .sipush 1, .goto 4]
  | 3 => [.sipush 0]
  | 4 => [.ireturn]
  | _ => []
def zP_88 : Nat → List Nat
  | 0 => [0, 1, 4, 5, 8, 11, 12, 15, 16, 19, 22]
  | 1 => [22, 23, 24]
  | 2 => [24, 25, 26, 27, 30, 33, 34, 37]
  | 3 => [37, 38]
  | 4 => [38, 39]
  | _ => [39]
def zB_89 : Nat → List Instr
  | 0 => [.aload 0, .getfield 704, .iload 1, .invokevirtual 82, .ifCond .ne 1, .sipush (-1), .ireturn]
  | 1 => [.iload 2, .tableswitch 10 0 7 #[2, 3, 4, 5, 6, 7, 8, 9]]
  | 2 => [.aload 0, .getfield 704, .getfield 640, .iload 1, .iaload, .ireturn]
  | 3 => [.aload 0, .getfield 704, .getfield 641, .iload 1, .iaload, .ireturn]
  | 4 => [.aload 0, .getfield 704, .getfield 642, .iload 1, .iaload, .ireturn]
  | 5 => [.aload 0, .getfield 704, .getfield 643, .iload 1, .iaload, .ireturn]
  | 6 => [.aload 0, .getfield 706, .getfield 193, .aload 0, .getfield 706, .getfield 197, .iload 1, .invokestatic 135, .ireturn]
  | 7 => [.aload 0, .getfield 707, .getfield 256, .aload 0, .getfield 707, .getfield 259, .iload 1, .invokestatic 135, .ireturn]
  | 8 => [.aload 0, .getfield 708, .getfield 64, .aload 0, .getfield 708, .getfield 68, .iload 1, .invokestatic 135, .ireturn]
  | 9 => [.aload 0, .getfield 709, .getfield 576, .aload 0, .getfield 709, .getfield 579, .iload 1, .invokestatic 135, .ireturn]
  | 10 => [.sipush (-2), .ireturn]
  | _ => []
def zP_89 : Nat → List Nat
  | 0 => [0, 1, 4, 5, 8, 11, 12, 13]
  | 1 => [13, 14, 60]
  | 2 => [60, 61, 64, 67, 68, 69, 70]
  | 3 => [70, 71, 74, 77, 78, 79, 80]
  | 4 => [80, 81, 84, 87, 88, 89, 90]
  | 5 => [90, 91, 94, 97, 98, 99, 100]
  | 6 => [100, 101, 104, 107, 108, 111, 114, 115, 118, 119]
  | 7 => [119, 120, 123, 126, 127, 130, 133, 134, 137, 138]
  | 8 => [138, 139, 142, 145, 146, 149, 152, 153, 156, 157]
  | 9 => [157, 158, 161, 164, 165, 168, 171, 172, 175, 176]
  | 10 => [176, 178, 179]
  | _ => [179]
def zB_90 : Nat → List Instr
  | 0 => [.aload 0, .getfield 705, .iload 1, .invokevirtual 61, .ifCond .ne 1, .sipush (-1), .ireturn]
  | 1 => [.iload 2, .tableswitch 6 0 3 #[2, 3, 4, 5]]
  | 2 => [.aload 0, .getfield 705, .getfield 448, .iload 1, .iaload, .ireturn]
  | 3 => [.aload 0, .getfield 705, .iload 1, .invokevirtual 63, .ireturn]
  | 4 => [.aload 0, .iload 1, .invokevirtual 140, .ireturn]
  | 5 => [.aload 0, .getfield 706, .getfield 192, .aload 0, .getfield 706, .getfield 197, .iload 1, .invokestatic 135, .ireturn]
  | 6 => [.sipush (-2), .ireturn]
  | _ => []
def zP_90 : Nat → List Nat
  | 0 => [0, 1, 4, 5, 8, 11, 12, 13]
  | 1 => [13, 14, 44]
  | 2 => [44, 45, 48, 51, 52, 53, 54]
  | 3 => [54, 55, 58, 59, 62, 63]
  | 4 => [63, 64, 65, 68, 69]
  | 5 => [69, 70, 73, 76, 77, 80, 83, 84, 87, 88]
  | 6 => [88, 90, 91]
  | _ => [91]
def zB_91 : Nat → List Instr
  | 0 => [.aload 0, .getfield 713, .aload 0, .getfield 705, .aload 0, .getfield 704, .invokevirtual 21, .aload 0, .getfield 713, .invokevirtual 24, .aload 0, .getfield 713, .invokevirtual 23, .ireturn]
  | _ => []
def zP_91 : Nat → List Nat
  | 0 => [0, 1, 4, 5, 8, 9, 12, 15, 16, 19, 22, 23, 26, 29, 30]
  | _ => [30]
def zB_92 : Nat → List Instr
  | 0 => [.aload 0, .getfield 705, .iload 1, .invokevirtual 61, .ifCond .ne 1, .sipush (-1), .ireturn]
  | 1 => [.iload 2, .sipush 0, .sipush 1, .invokestatic 133, .ifCond .ne 2, .sipush (-2), .ireturn]
  | 2 => [.aload 0, .getfield 713, .aload 0, .getfield 705, .aload 0, .getfield 704, .invokevirtual 21, .iload 2, .ifCond .ne 3, .aload 0, .getfield 713, .invokevirtual 24, .goto 4]
  | 3 => [.aload 0, .getfield 713, .invokevirtual 30]
  | 4 => [.aload 0, .getfield 713, .getfield 132, .iload 1, .iaload, .istore 3, .iload 3, .ifCond .ge 5, .sipush (-9), .goto 6]
  | 5 => [.iload 3]
  | 6 => [.ireturn]
  | _ => []
def zP_92 : Nat → List Nat
  | 0 => [0, 1, 4, 5, 8, 11, 12, 13]
  | 1 => [13, 14, 15, 16, 19, 22, 24, 25]
  | 2 => [25, 26, 29, 30, 33, 34, 37, 40, 41, 44, 45, 48, 51, 54]
  | 3 => [54, 55, 58, 61]
  | 4 => [61, 62, 65, 68, 69, 70, 71, 72, 75, 77, 80]
  | 5 => [80, 81]
  | 6 => [81, 82]
  | _ => [82]
def zB_93 : Nat → List Instr
  | 0 => [.aload 0, .iload 1, .iload 2, .iload 3, .invokevirtual 138, .istore 4, .iload 4, .ifCond .eq 1, .iload 4, .goto 2]
  | 1 => [.aload 0, .getfield 713, .invokevirtual 36]
  | 2 => [.ireturn]
  | _ => []
def zP_93 : Nat → List Nat
  | 0 => [0, 1, 2, 3, 4, 7, 9, 11, 14, 16, 19]
  | 1 => [19, 20, 23, 26]
  | 2 => [26, 27]
  | _ => [27]
def zB_94 : Nat → List Instr
  | 0 => [.aload 0, .sipush 0, .putfield 716, .iload 4, .ifCond .ge 1, .sipush (-1), .ireturn]
  | 1 => [.aload 0, .iload 1, .iload 2, .iload 3, .invokevirtual 138, .istore 5, .iload 5, .ifCond .eq 2, .iload 5, .goto 3]
  | 2 => [.aload 0, .getfield 713, .iload 4, .invokevirtual 37]
  | 3 => [.ireturn]
  | _ => []
def zP_94 : Nat → List Nat
  | 0 => [0, 1, 2, 5, 7, 10, 11, 12]
  | 1 => [12, 13, 14, 15, 16, 19, 21, 23, 26, 28, 31]
  | 2 => [31, 32, 35, 37, 40]
  | 3 => [40, 41]
  | _ => [41]
def zB_95 : Nat → List Instr
  | 0 => [.aload 0, .getfield 705, .iload 1, .invokevirtual 61, .ifCond .eq 1, .aload 0, .getfield 704, .iload 2, .invokevirtual 82, .ifCond .ne 2]
  | 1 => [.sipush (-1), .ireturn]
  | 2 => [.iload 3, .sipush 0, .sipush 100000, .invokestatic 133, .ifCond .eq 3, .iload 4, .iload 3, .sipush 100000, .invokestatic 133, .ifCond .ne 4]
  | 3 => [.sipush (-2), .ireturn]
  | 4 => [.aload 0, .iload 1, .iload 2, .invokevirtual 139, .ifCond .eq 5, .aload 0, .getfield 706, .iload 1, .iload 2, .iload 3, .iload 4, .invokevirtual 40, .ifCond .eq 6]
  | 5 => [.sipush (-3), .ireturn]
  | 6 => [.aload 0, .getfield 706, .iload 1, .iload 2, .iload 3, .iload 4, .invokevirtual 39, .istore 5, .iload 5, .ifCond .lt 7, .aload 0, .getfield 705, .getfield 450, .iload 1, .dup2, .iaload, .sipush 1, .aload 0, .getfield 704, .getfield 641, .iload 2, .iaload, .ishl, .ior, .iastore]
  | 7 => [.iload 5, .ireturn]
  | _ => []
def zP_95 : Nat → List Nat
  | 0 => [0, 1, 4, 5, 8, 11, 12, 15, 16, 19, 22]
  | 1 => [22, 23, 24]
  | 2 => [24, 25, 26, 28, 31, 34, 36, 37, 39, 42, 45]
  | 3 => [45, 47, 48]
  | 4 => [48, 49, 50, 51, 54, 57, 58, 61, 62, 63, 64, 66, 69, 72]
  | 5 => [72, 74, 75]
  | 6 => [75, 76, 79, 80, 81, 82, 84, 87, 89, 91, 94, 95, 98, 101, 102, 103, 104, 105, 106, 109, 112, 113, 114, 115, 116, 117]
  | 7 => [117, 119, 120]
  | _ => [120]
def zB_96 : Nat → List Instr
  | 0 => [.aload 0, .getfield 706, .iload 1, .invokevirtual 38, .ifCond .ne 1, .sipush (-1), .ireturn]
  | 1 => [.iload 2, .aload 0, .getfield 706, .getfield 194, .iload 1, .iaload, .aload 0, .getfield 706, .getfield 195, .iload 1, .iaload, .invokestatic 133, .ifCond .ne 2, .sipush (-2), .ireturn]
  | 2 => [.aload 0, .getfield 706, .getfield 195, .iload 1, .iaload, .istore 3, .aload 0, .getfield 706, .getfield 195, .iload 1, .iload 2, .iastore, .iload 3, .ireturn]
  | _ => []
def zP_96 : Nat → List Nat
  | 0 => [0, 1, 4, 5, 8, 11, 12, 13]
  | 1 => [13, 14, 15, 18, 21, 22, 23, 24, 27, 30, 31, 32, 35, 38, 40, 41]
  | 2 => [41, 42, 45, 48, 49, 50, 51, 52, 55, 58, 59, 60, 61, 62, 63]
  | _ => [63]
def zB_97 : Nat → List Instr
  | 0 => [.aload 0, .getfield 706, .iload 1, .invokevirtual 38, .ifCond .ne 1, .sipush (-1), .ireturn]
  | 1 => [.iload 2, .sipush 0, .sipush 100000, .invokestatic 133, .ifCond .ne 2, .sipush (-2), .ireturn]
  | 2 => [.aload 0, .getfield 706, .getfield 196, .iload 1, .iload 2, .iastore, .sipush 1, .ireturn]
  | _ => []
def zP_97 : Nat → List Nat
  | 0 => [0, 1, 4, 5, 8, 11, 12, 13]
  | 1 => [13, 14, 15, 17, 20, 23, 25, 26]
  | 2 => [26, 27, 30, 33, 34, 35, 36, 37, 38]
  | _ => [38]
def zB_98 : Nat → List Instr
  | 0 => [.aload 0, .getfield 706, .iload 1, .invokevirtual 38, .ifCond .ne 1, .sipush (-1), .ireturn]
  | 1 => [.iload 2, .tableswitch 8 0 5 #[2, 3, 4, 5, 6, 7]]
  | 2 => [.aload 0, .getfield 706, .getfield 192, .iload 1, .iaload, .ireturn]
  | 3 => [.aload 0, .getfield 706, .getfield 193, .iload 1, .iaload, .ireturn]
  | 4 => [.aload 0, .getfield 706, .getfield 194, .iload 1, .iaload, .ireturn]
  | 5 => [.aload 0, .getfield 706, .getfield 195, .iload 1, .iaload, .ireturn]
  | 6 => [.aload 0, .getfield 706, .getfield 196, .iload 1, .iaload, .ireturn]
  | 7 => [.aload 0, .iload 1, .invokevirtual 141, .ireturn]
  | 8 => [.sipush (-2), .ireturn]
  | _ => []
def zP_98 : Nat → List Nat
  | 0 => [0, 1, 4, 5, 8, 11, 12, 13]
  | 1 => [13, 14, 52]
  | 2 => [52, 53, 56, 59, 60, 61, 62]
  | 3 => [62, 63, 66, 69, 70, 71, 72]
  | 4 => [72, 73, 76, 79, 80, 81, 82]
  | 5 => [82, 83, 86, 89, 90, 91, 92]
  | 6 => [92, 93, 96, 99, 100, 101, 102]
  | 7 => [102, 103, 104, 107, 108]
  | 8 => [108, 110, 111]
  | _ => [111]
def zB_99 : Nat → List Instr
  | 0 => [.iload 1, .sipush 0, .sipush 1, .invokestatic 133, .ifCond .ne 1, .sipush (-2), .ireturn]
  | 1 => [.iload 1, .ifCond .ne 2, .aload 0, .getfield 704, .iload 2, .invokevirtual 82, .ifCond .ne 4, .goto 3]
  | 2 => [.aload 0, .getfield 705, .iload 2, .invokevirtual 61, .ifCond .ne 4]
  | 3 => [.sipush (-1), .ireturn]
  | 4 => [.iload 3, .sipush 0, .sipush 100000, .invokestatic 133, .ifCond .ne 5, .sipush (-2), .ireturn]
  | 5 => [.aload 0, .getfield 706, .iload 1, .ifCond .ne 6, .aload 0, .getfield 706, .getfield 193, .goto 7]
  | 6 => [.aload 0, .getfield 706, .getfield 192]
  | 7 => [.iload 2, .iload 3, .invokevirtual 41, .ireturn]
  | _ => []
def zP_99 : Nat → List Nat
  | 0 => [0, 1, 2, 3, 6, 9, 11, 12]
  | 1 => [12, 13, 16, 17, 20, 21, 24, 27, 30]
  | 2 => [30, 31, 34, 35, 38, 41]
  | 3 => [41, 42, 43]
  | 4 => [43, 44, 45, 47, 50, 53, 55, 56]
  | 5 => [56, 57, 60, 61, 64, 65, 68, 71, 74]
  | 6 => [74, 75, 78, 81]
  | 7 => [81, 82, 83, 86, 87]
  | _ => [87]
def zB_100 : Nat → List Instr
  | 0 => [.aload 0, .getfield 704, .iload 1, .invokevirtual 82, .ifCond .ne 1, .sipush (-1), .ireturn]
  | 1 => [.iload 2, .sipush 0, .sipush 100000, .invokestatic 133, .ifCond .eq 2, .iload 3, .sipush 0, .sipush 65535, .invokestatic 133, .ifCond .ne 3]
  | 2 => [.sipush (-2), .ireturn]
  | 3 => [.aload 0, .getfield 707, .iload 1, .iload 2, .invokevirtual 44, .ifCond .eq 4, .sipush (-3), .ireturn]
  | 4 => [.aload 0, .getfield 707, .iload 1, .iload 2, .iload 3, .invokevirtual 43, .ireturn]
  | _ => []
def zP_100 : Nat → List Nat
  | 0 => [0, 1, 4, 5, 8, 11, 12, 13]
  | 1 => [13, 14, 15, 17, 20, 23, 24, 25, 27, 30, 33]
  | 2 => [33, 35, 36]
  | 3 => [36, 37, 40, 41, 42, 45, 48, 50, 51]
  | 4 => [51, 52, 55, 56, 57, 58, 61, 62]
  | _ => [62]
def zB_101 : Nat → List Instr
  | 0 => [.aload 0, .getfield 704, .iload 1, .invokevirtual 82, .ifCond .eq 1, .iload 2, .sipush 0, .sipush 15, .invokestatic 133, .ifCond .ne 2]
  | 1 => [.sipush (-1), .ireturn]
  | 2 => [.iload 3, .sipush 0, .sipush 1, .invokestatic 133, .ifCond .ne 3, .sipush (-2), .ireturn]
  | 3 => [.aload 0, .getfield 707, .iload 1, .iload 2, .invokevirtual 45, .istore 4, .iload 4, .sipush (-9), .if_icmp .ne 4, .sipush (-9), .ireturn]
  | 4 => [.iload 3, .ifCond .ne 5, .aload 0, .getfield 707, .iload 1, .iload 4, .invokevirtual 46, .goto 6]
  | 5 => [.iload 4]
  | 6 => [.ireturn]
  | _ => []
def zP_101 : Nat → List Nat
  | 0 => [0, 1, 4, 5, 8, 11, 12, 13, 15, 18, 21]
  | 1 => [21, 22, 23]
  | 2 => [23, 24, 25, 26, 29, 32, 34, 35]
  | 3 => [35, 36, 39, 40, 41, 44, 46, 48, 50, 53, 55, 56]
  | 4 => [56, 57, 60, 61, 64, 65, 67, 70, 73]
  | 5 => [73, 75]
  | 6 => [75, 76]
  | _ => [76]
def zB_102 : Nat → List Instr
  | 0 => [.aload 0, .getfield 704, .iload 1, .invokevirtual 82, .ifCond .eq 1, .iload 2, .sipush 0, .sipush 15, .invokestatic 133, .ifCond .ne 2]
  | 1 => [.sipush (-1), .ireturn]
  | 2 => [.aload 0, .getfield 707, .iload 1, .iload 2, .invokevirtual 45, .istore 3, .iload 3, .sipush (-9), .if_icmp .ne 3, .sipush (-9), .ireturn]
  | 3 => [.aload 0, .getfield 706, .iload 1, .aload 0, .getfield 707, .iload 1, .iload 3, .invokevirtual 46, .iload 3, .invokevirtual 42, .ireturn]
  | _ => []
def zP_102 : Nat → List Nat
  | 0 => [0, 1, 4, 5, 8, 11, 12, 13, 15, 18, 21]
  | 1 => [21, 22, 23]
  | 2 => [23, 24, 27, 28, 29, 32, 33, 34, 36, 39, 41, 42]
  | 3 => [42, 43, 46, 47, 48, 51, 52, 53, 56, 57, 60, 61]
  | _ => [61]
def zB_103 : Nat → List Instr
  | 0 => [.aload 0, .getfield 704, .iload 1, .invokevirtual 82, .ifCond .eq 1, .aload 0, .getfield 707, .iload 1, .invokevirtual 47, .goto 2]
  | 1 => [.sipush (-1)]
  | 2 => [.ireturn]
  | _ => []
def zP_103 : Nat → List Nat
  | 0 => [0, 1, 4, 5, 8, 11, 12, 15, 16, 19, 22]
  | 1 => [22, 23]
  | 2 => [23, 24]
  | _ => [24]
def zB_104 : Nat → List Instr
  | 0 => [.aload 0, .sipush 0, .putfield 716, .aload 0, .getfield 710, .iload 3, .invokevirtual 65, .ifCond .ne 1, .sipush (-1), .ireturn]
  | 1 => [.iload 4, .invokestatic 134, .ifCond .eq 2, .iload 1, .sipush 0, .sipush 100000, .invokestatic 133, .ifCond .eq 2, .iload 2, .sipush 1, .sipush 9, .invokestatic 133, .ifCond .ne 3]
  | 2 => [.sipush (-2), .ireturn]
  | 3 => [.aload 0, .aload 0, .getfield 710, .iload 3, .iload 4, .iload 5, .aload 0, .getfield 705, .getfield 452, .invokevirtual 69, .invokevirtual 136, .istore 6, .iload 6, .ifCond .eq 4, .iload 6, .ireturn]
  | 4 => [.aload 0, .getfield 714, .aload 0, .getfield 706, .iload 1, .invokevirtual 49, .aload 0, .getfield 714, .aload 0, .getfield 710, .getfield 515, .aload 0, .getfield 705, .getfield 452, .aload 0, .getfield 704, .getfield 645, .invokevirtual 50, .ifCond .ne 5, .sipush (-2), .ireturn]
  | 5 => [.aload 0, .getfield 714, .iload 2, .invokevirtual 52, .ireturn]
  | _ => []
def zP_104 : Nat → List Nat
  | 0 => [0, 1, 2, 5, 6, 9, 10, 13, 16, 17, 18]
  | 1 => [18, 20, 23, 26, 27, 28, 30, 33, 36, 37, 38, 40, 43, 46]
  | 2 => [46, 48, 49]
  | 3 => [49, 50, 51, 54, 55, 57, 59, 60, 63, 66, 69, 72, 74, 76, 79, 81, 82]
  | 4 => [82, 83, 86, 87, 90, 91, 94, 95, 98, 99, 102, 105, 106, 109, 112, 113, 116, 119, 122, 125, 127, 128]
  | 5 => [128, 129, 132, 133, 136, 137]
  | _ => [137]
def zB_105 : Nat → List Instr
  | 0 => [.aload 0, .getfield 704, .iload 1, .invokevirtual 82, .ifCond .ne 1, .sipush (-1), .ireturn]
  | 1 => [.iload 2, .sipush 0, .sipush 99, .invokestatic 133, .ifCond .eq 2, .iload 3, .sipush 1500, .sipush 2100, .invokestatic 133, .ifCond .eq 2, .iload 4, .iload 3, .sipush 2100, .invokestatic 133, .ifCond .ne 3]
  | 2 => [.sipush (-2), .ireturn]
  | 3 => [.aload 0, .getfield 708, .iload 1, .iload 2, .iload 3, .iload 4, .invokevirtual 7, .ireturn]
  | _ => []
def zP_105 : Nat → List Nat
  | 0 => [0, 1, 4, 5, 8, 11, 12, 13]
  | 1 => [13, 14, 15, 17, 20, 23, 24, 27, 30, 33, 36, 38, 39, 42, 45, 48]
  | 2 => [48, 50, 51]
  | 3 => [51, 52, 55, 56, 57, 58, 60, 63, 64]
  | _ => [64]
def zB_106 : Nat → List Instr
  | 0 => [.aload 0, .getfield 704, .iload 1, .invokevirtual 82, .ifCond .ne 1, .sipush (-1), .ireturn]
  | 1 => [.iload 2, .lookupswitch 4 #[(0, 2), (1, 3)]]
  | 2 => [.aload 0, .getfield 708, .iload 1, .invokevirtual 11, .ireturn]
  | 3 => [.aload 0, .getfield 708, .iload 1, .invokevirtual 14, .ireturn]
  | 4 => [.sipush (-2), .ireturn]
  | _ => []
def zP_106 : Nat → List Nat
  | 0 => [0, 1, 4, 5, 8, 11, 12, 13]
  | 1 => [13, 14, 40]
  | 2 => [40, 41, 44, 45, 48, 49]
  | 3 => [49, 50, 53, 54, 57, 58]
  | 4 => [58, 60, 61]
  | _ => [61]
def zB_107 : Nat → List Instr
  | 0 => [.aload 0, .getfield 704, .iload 1, .invokevirtual 82, .ifCond .eq 1, .iload 2, .ifCond .lt 1, .aload 0, .getfield 708, .iload 1, .iload 2, .invokevirtual 12, .ifCond .ne 2]
  | 1 => [.sipush (-1), .ireturn]
  | 2 => [.iload 3, .lookupswitch 5 #[(0, 3), (1, 4)]]
  | 3 => [.aload 0, .getfield 708, .getfield 71, .ireturn]
  | 4 => [.aload 0, .getfield 708, .getfield 72, .ireturn]
  | 5 => [.sipush (-2), .ireturn]
  | _ => []
def zP_107 : Nat → List Nat
  | 0 => [0, 1, 4, 5, 8, 11, 12, 15, 16, 19, 20, 21, 24, 27]
  | 1 => [27, 28, 29]
  | 2 => [29, 30, 56]
  | 3 => [56, 57, 60, 63, 64]
  | 4 => [64, 65, 68, 71, 72]
  | 5 => [72, 74, 75]
  | _ => [75]
def zB_108 : Nat → List Instr
  | 0 => [.aload 0, .getfield 704, .iload 1, .invokevirtual 82, .ifCond .ne 1, .sipush (-1), .ireturn]
  | 1 => [.iload 2, .sipush 0, .sipush 99, .invokestatic 133, .ifCond .eq 2, .iload 3, .sipush 1500, .sipush 2100, .invokestatic 133, .ifCond .ne 3]
  | 2 => [.sipush (-2), .ireturn]
  | 3 => [.aload 0, .getfield 708, .iload 1, .iload 2, .iload 3, .invokevirtual 15, .ifCond .eq 4, .sipush 2, .ireturn]
  | 4 => [.aload 0, .getfield 708, .iload 1, .iload 2, .iload 3, .invokevirtual 18, .ifCond .eq 5, .sipush 1, .goto 6]
  | 5 => [.sipush 0]
  | 6 => [.ireturn]
  | _ => []
def zP_108 : Nat → List Nat
  | 0 => [0, 1, 4, 5, 8, 11, 12, 13]
  | 1 => [13, 14, 15, 17, 20, 23, 24, 27, 30, 33, 36]
  | 2 => [36, 38, 39]
  | 3 => [39, 40, 43, 44, 45, 46, 49, 52, 53, 54]
  | 4 => [54, 55, 58, 59, 60, 61, 64, 67, 68, 71]
  | 5 => [71, 72]
  | 6 => [72, 73]
  | _ => [73]
def zB_109 : Nat → List Instr
  | 0 => [.aload 0, .getfield 704, .iload 1, .invokevirtual 82, .ifCond .ne 1, .sipush (-1), .ireturn]
  | 1 => [.iload 2, .sipush 0, .sipush 100000, .invokestatic 133, .ifCond .eq 2, .iload 3, .sipush (-1), .sipush 1, .invokestatic 133, .ifCond .ne 3]
  | 2 => [.sipush (-2), .ireturn]
  | 3 => [.aload 0, .getfield 709, .iload 1, .iload 2, .iload 2, .invokevirtual 74, .ifCond .le 4, .sipush (-3), .ireturn]
  | 4 => [.aload 0, .getfield 709, .iload 1, .iload 2, .iload 3, .invokevirtual 73, .ireturn]
  | _ => []
def zP_109 : Nat → List Nat
  | 0 => [0, 1, 4, 5, 8, 11, 12, 13]
  | 1 => [13, 14, 15, 17, 20, 23, 24, 25, 26, 29, 32]
  | 2 => [32, 34, 35]
  | 3 => [35, 36, 39, 40, 41, 42, 45, 48, 50, 51]
  | 4 => [51, 52, 55, 56, 57, 58, 61, 62]
  | _ => [62]
def zB_110 : Nat → List Instr
  | 0 => [.aload 0, .getfield 709, .iload 1, .invokevirtual 72, .ifCond .ne 1, .sipush (-1), .ireturn]
  | 1 => [.iload 2, .sipush (-1), .sipush 1, .invokestatic 133, .ifCond .ne 2, .sipush (-2), .ireturn]
  | 2 => [.aload 0, .getfield 709, .getfield 578, .iload 1, .iaload, .istore 3, .aload 0, .getfield 709, .getfield 578, .iload 1, .iload 2, .iastore, .iload 3, .sipush (-1), .if_icmp .ne 3, .sipush (-9), .goto 4]
  | 3 => [.iload 3]
  | 4 => [.ireturn]
  | _ => []
def zP_110 : Nat → List Nat
  | 0 => [0, 1, 4, 5, 8, 11, 12, 13]
  | 1 => [13, 14, 15, 16, 19, 22, 24, 25]
  | 2 => [25, 26, 29, 32, 33, 34, 35, 36, 39, 42, 43, 44, 45, 46, 47, 50, 52, 55]
  | 3 => [55, 56]
  | 4 => [56, 57]
  | _ => [57]
def zB_111 : Nat → List Instr
  | 0 => [.iload 1, .sipush 0, .sipush 100000, .invokestatic 133, .ifCond .ne 1, .sipush (-2), .ireturn]
  | 1 => [.aload 0, .getfield 709, .iload 1, .aload 0, .getfield 704, .invokevirtual 75, .aload 0, .getfield 709, .getfield 585, .ireturn]
  | _ => []
def zP_111 : Nat → List Nat
  | 0 => [0, 1, 2, 4, 7, 10, 12, 13]
  | 1 => [13, 14, 17, 18, 19, 22, 25, 26, 29, 32, 33]
  | _ => [33]
def zB_112 : Nat → List Instr
  | 0 => [.aload 0, .getfield 709, .iload 1, .invokevirtual 72, .ifCond .ne 1, .sipush (-1), .ireturn]
  | 1 => [.aload 0, .getfield 709, .aload 0, .getfield 709, .getfield 577, .iload 1, .iaload, .aload 0, .getfield 704, .invokevirtual 75, .aload 0, .getfield 709, .iload 1, .invokevirtual 79, .ireturn]
  | _ => []
def zP_112 : Nat → List Nat
  | 0 => [0, 1, 4, 5, 8, 11, 12, 13]
  | 1 => [13, 14, 17, 18, 21, 24, 25, 26, 27, 30, 33, 34, 37, 38, 41, 42]
  | _ => [42]
def zB_113 : Nat → List Instr
  | 0 => [.iload 1, .sipush 1, .sipush 100000000, .invokestatic 133, .ifCond .ne 1, .sipush (-2), .ireturn]
  | 1 => [.aload 0, .getfield 709, .getfield 580, .istore 2, .aload 0, .getfield 709, .iload 1, .putfield 580, .iload 2, .ireturn]
  | _ => []
def zP_113 : Nat → List Nat
  | 0 => [0, 1, 2, 5, 8, 11, 13, 14]
  | 1 => [14, 15, 18, 21, 22, 23, 26, 27, 30, 31, 32]
  | _ => [32]
def zB_114 : Nat → List Instr
  | 0 => [.aload 0, .getfield 709, .aload 0, .getfield 704, .invokevirtual 80, .ireturn]
  | _ => []
def zP_114 : Nat → List Nat
  | 0 => [0, 1, 4, 5, 8, 11, 12]
  | _ => [12]
def zB_115 : Nat → List Instr
  | 0 => [.aload 0, .sipush 0, .putfield 716, .aload 0, .getfield 710, .iload 1, .invokevirtual 65, .ifCond .ne 1, .sipush (-1), .ireturn]
  | 1 => [.iload 2, .invokestatic 134, .ifCond .eq 2, .iload 5, .sipush 0, .sipush 100, .invokestatic 133, .ifCond .eq 2, .iload 6, .iload 5, .sipush 100, .invokestatic 133, .ifCond .eq 2, .iload 7, .sipush 0, .sipush 1, .invokestatic 133, .ifCond .ne 3]
  | 2 => [.sipush (-2), .ireturn]
  | 3 => [.aload 0, .aload 0, .getfield 710, .iload 1, .iload 2, .iload 3, .iload 4, .invokevirtual 69, .invokevirtual 136, .istore 8, .iload 8, .ifCond .eq 4, .iload 8, .ireturn]
  | 4 => [.aload 0, .getfield 710, .iload 4, .sipush (-1), .sipush 100, .invokevirtual 70, .ifCond .ne 5, .sipush (-2), .ireturn]
  | 5 => [.aload 0, .getfield 710, .iload 4, .iload 5, .iload 6, .iload 7, .sipush 1, .if_icmp .ne 6, .sipush 1, .goto 7]
  | 6 => [.sipush 0]
  | 7 => [.invokevirtual 71, .ireturn]
  | _ => []
def zP_115 : Nat → List Nat
  | 0 => [0, 1, 2, 5, 6, 9, 10, 13, 16, 17, 18]
  | 1 => [18, 19, 22, 25, 27, 28, 30, 33, 36, 38, 40, 42, 45, 48, 50, 51, 52, 55, 58]
  | 2 => [58, 60, 61]
  | 3 => [61, 62, 63, 66, 67, 68, 69, 71, 74, 77, 79, 81, 84, 86, 87]
  | 4 => [87, 88, 91, 93, 94, 96, 99, 102, 104, 105]
  | 5 => [105, 106, 109, 111, 113, 115, 117, 118, 121, 122, 125]
  | 6 => [125, 126]
  | 7 => [126, 129, 130]
  | _ => [130]
def zB_116 : Nat → List Instr
  | 0 => [.aload 0, .sipush 0, .putfield 716, .aload 0, .getfield 704, .iload 1, .invokevirtual 82, .ifCond .eq 1, .aload 0, .getfield 710, .iload 2, .invokevirtual 65, .ifCond .ne 2]
  | 1 => [.sipush (-1), .ireturn]
  | 2 => [.iload 3, .invokestatic 134, .ifCond .ne 3, .sipush (-2), .ireturn]
  | 3 => [.aload 0, .aload 0, .getfield 710, .iload 2, .iload 3, .iload 4, .iload 5, .invokevirtual 69, .invokevirtual 136, .istore 6, .iload 6, .ifCond .eq 4, .iload 6, .ireturn]
  | 4 => [.iload 5, .sipush 20, .if_icmp .gt 5, .aload 0, .getfield 710, .iload 5, .sipush 1, .sipush 255, .invokevirtual 70, .ifCond .ne 6]
  | 5 => [.sipush (-2), .ireturn]
  | 6 => [.aload 0, .getfield 710, .getfield 515, .sipush 0, .aload 0, .getfield 704, .getfield 644, .iload 1, .aaload, .sipush 0, .iload 5, .invokestatic 999, .aload 0, .getfield 704, .getfield 643, .iload 1, .iload 5, .iastore, .iload 5, .ireturn]
  | _ => []
def zP_116 : Nat → List Nat
  | 0 => [0, 1, 2, 5, 6, 9, 10, 13, 16, 17, 20, 21, 24, 27]
  | 1 => [27, 28, 29]
  | 2 => [29, 30, 33, 36, 38, 39]
  | 3 => [39, 40, 41, 44, 45, 46, 48, 50, 53, 56, 58, 60, 63, 65, 66]
  | 4 => [66, 68, 70, 73, 74, 77, 79, 80, 83, 86, 89]
  | 5 => [89, 91, 92]
  | 6 => [92, 93, 96, 99, 100, 101, 104, 107, 108, 109, 110, 112, 115, 116, 119, 122, 123, 125, 126, 128, 129]
  | _ => [129]
def zB_117 : Nat → List Instr
  | 0 => [.aload 0, .sipush 0, .putfield 716, .aload 0, .getfield 710, .iload 1, .invokevirtual 65, .ifCond .ne 1, .sipush (-1), .ireturn]
  | 1 => [.iload 2, .invokestatic 134, .ifCond .eq 2, .iload 5, .sipush 0, .sipush 2100, .invokestatic 133, .ifCond .ne 3]
  | 2 => [.sipush (-2), .ireturn]
  | 3 => [.aload 0, .aload 0, .getfield 710, .iload 1, .iload 2, .iload 3, .iload 4, .invokevirtual 69, .invokevirtual 136, .istore 6, .iload 6, .ifCond .eq 4, .iload 6, .ireturn]
  | 4 => [.aload 0, .getfield 710, .iload 4, .sipush 1, .sipush 255, .invokevirtual 70, .ifCond .ne 5, .sipush (-2), .ireturn]
  | 5 => [.aload 0, .getfield 710, .getfield 515, .sipush 0, .aload 0, .getfield 711, .getfield 384, .sipush 0, .iload 4, .invokestatic 999, .aload 0, .getfield 711, .iload 4, .putfield 385, .aload 0, .getfield 711, .iload 5, .putfield 386, .iload 4, .ireturn]
  | _ => []
def zP_117 : Nat → List Nat
  | 0 => [0, 1, 2, 5, 6, 9, 10, 13, 16, 17, 18]
  | 1 => [18, 19, 22, 25, 27, 28, 31, 34, 37]
  | 2 => [37, 39, 40]
  | 3 => [40, 41, 42, 45, 46, 47, 48, 50, 53, 56, 58, 60, 63, 65, 66]
  | 4 => [66, 67, 70, 72, 73, 76, 79, 82, 84, 85]
  | 5 => [85, 86, 89, 92, 93, 94, 97, 100, 101, 103, 106, 107, 110, 112, 115, 116, 119, 121, 124, 126, 127]
  | _ => [127]
def zB_118 : Nat → List Instr
  | 0 => [.aload 0, .getfield 704, .iload 1, .invokevirtual 82, .ifCond .eq 1, .iload 3, .sipush 0, .sipush 1, .invokestatic 133, .ifCond .ne 2]
  | 1 => [.ldc2_w 0, .lreturn]
  | 2 => [.aload 0, .getfield 704, .getfield 643, .iload 1, .iaload, .istore 4, .iload 4, .ifCond .eq 3, .aload 0, .getfield 711, .getfield 385, .ifCond .eq 3, .iload 2, .sipush 1, .iload 4, .isub, .aload 0, .getfield 711, .getfield 385, .sipush 1, .isub, .invokestatic 133, .ifCond .ne 4]
  | 3 => [.ldc2_w 0, .lreturn]
  | 4 => [.aload 0, .getfield 711, .aload 0, .getfield 704, .getfield 644, .iload 1, .aaload, .iload 4, .iload 2, .invokevirtual 56, .iload 3, .ifCond .ne 5, .aload 0, .getfield 711, .getfield 387, .aload 0, .getfield 711, .getfield 388, .isub, .i2l, .goto 6]
  | 5 => [.aload 0, .getfield 711, .getfield 387, .aload 0, .getfield 711, .getfield 388, .iadd, .i2l]
  | 6 => [.lreturn]
  | _ => []
def zP_118 : Nat → List Nat
  | 0 => [0, 1, 4, 5, 8, 11, 12, 13, 14, 17, 20]
  | 1 => [20, 23, 24]
  | 2 => [24, 25, 28, 31, 32, 33, 35, 37, 40, 41, 44, 47, 50, 51, 52, 54, 55, 56, 59, 62, 63, 64, 67, 70]
  | 3 => [70, 73, 74]
  | 4 => [74, 75, 78, 79, 82, 85, 86, 87, 89, 90, 93, 94, 97, 98, 101, 104, 105, 108, 111, 112, 113, 116]
  | 5 => [116, 117, 120, 123, 124, 127, 130, 131, 132]
  | 6 => [132, 133]
  | _ => [133]
def zB_119 : Nat → List Instr
  | 0 => [.aload 0, .getfield 704, .iload 1, .invokevirtual 82, .ifCond .eq 1, .aload 0, .getfield 711, .aload 0, .getfield 704, .getfield 644, .iload 1, .aaload, .aload 0, .getfield 704, .getfield 643, .iload 1, .iaload, .invokevirtual 59, .ifCond .ne 2]
  | 1 => [.ldc2_w 0, .lreturn]
  | 2 => [.iload 2, .tableswitch 6 0 2 #[3, 4, 5]]
  | 3 => [.aload 0, .getfield 711, .getfield 389, .i2l, .lreturn]
  | 4 => [.aload 0, .getfield 711, .getfield 390, .i2l, .lreturn]
  | 5 => [.aload 0, .getfield 711, .getfield 386, .aload 0, .getfield 711, .getfield 389, .iadd, .aload 0, .getfield 704, .getfield 643, .iload 1, .iaload, .iadd, .sipush 1, .isub, .i2l, .lreturn]
  | 6 => [.ldc2_w 0, .lreturn]
  | _ => []
def zP_119 : Nat → List Nat
  | 0 => [0, 1, 4, 5, 8, 11, 12, 15, 16, 19, 22, 23, 24, 25, 28, 31, 32, 33, 36, 39]
  | 1 => [39, 42, 43]
  | 2 => [43, 44, 72]
  | 3 => [72, 73, 76, 79, 80, 81]
  | 4 => [81, 82, 85, 88, 89, 90]
  | 5 => [90, 91, 94, 97, 98, 101, 104, 105, 106, 109, 112, 113, 114, 115, 116, 117, 118, 119]
  | 6 => [119, 122, 123]
  | _ => [123]
def zB_120 : Nat → List Instr
  | 0 => [.aload 0, .getfield 704, .iload 1, .invokevirtual 82, .ifCond .eq 1, .aload 0, .getfield 704, .iload 2, .invokevirtual 82, .ifCond .ne 2]
  | 1 => [.sipush (-1), .ireturn]
  | 2 => [.iload 1, .iload 2, .if_icmp .ne 3, .sipush (-3), .ireturn]
  | 3 => [.aload 0, .getfield 711, .aload 0, .getfield 704, .iload 1, .iload 2, .invokevirtual 60, .ifCond .eq 4, .sipush 1, .goto 5]
  | 4 => [.sipush 0]
  | 5 => [.ireturn]
  | _ => []
def zP_120 : Nat → List Nat
  | 0 => [0, 1, 4, 5, 8, 11, 12, 15, 16, 19, 22]
  | 1 => [22, 23, 24]
  | 2 => [24, 25, 26, 29, 31, 32]
  | 3 => [32, 33, 36, 37, 40, 41, 42, 45, 48, 49, 52]
  | 4 => [52, 53]
  | 5 => [53, 54]
  | _ => [54]
def zB_121 : Nat → List Instr
  | 0 => [.aload 0, .iload 1, .iload 2, .iload 3, .iload 4, .invokevirtual 137, .istore 5, .iload 5, .ifCond .eq 1, .iload 5, .ireturn]
  | 1 => [.aload 0, .getfield 712, .aload 0, .getfield 710, .getfield 515, .iload 4, .invokevirtual 0, .istore 6, .iload 6, .sipush (-1), .if_icmp .ne 2, .aload 0, .getfield 712, .getfield 1, .goto 3]
  | 2 => [.sipush (-100), .iload 6, .isub]
  | 3 => [.ireturn]
  | _ => []
def zP_121 : Nat → List Nat
  | 0 => [0, 1, 2, 3, 4, 6, 9, 11, 13, 16, 18, 19]
  | 1 => [19, 20, 23, 24, 27, 30, 32, 35, 37, 39, 40, 43, 44, 47, 50, 53]
  | 2 => [53, 55, 57, 58]
  | 3 => [58, 59]
  | _ => [59]
def zB_122 : Nat → List Instr
  | 0 => [.iload 1, .sipush 0, .sipush 3, .invokestatic 133, .ifCond .eq 1, .aload 0, .getfield 712, .getfield 0, .iload 1, .iaload, .goto 2]
  | 1 => [.sipush (-1)]
  | 2 => [.ireturn]
  | _ => []
def zP_122 : Nat → List Nat
  | 0 => [0, 1, 2, 3, 6, 9, 10, 13, 16, 17, 18, 21]
  | 1 => [21, 22]
  | 2 => [22, 23]
  | _ => [23]
def zB_123 : Nat → List Instr
  | 0 => [.aload 0, .sipush 0, .putfield 716, .aload 0, .getfield 710, .iload 1, .invokevirtual 65, .ifCond .ne 1, .sipush (-1), .ireturn]
  | 1 => [.iload 2, .invokestatic 134, .ifCond .eq 2, .iload 3, .sipush 60, .if_icmp .le 3]
  | 2 => [.sipush (-2), .ireturn]
  | 3 => [.iload 3, .ifCond .ge 4, .aload 0, .sipush 4, .invokevirtual 136, .ireturn]
  | 4 => [.aload 0, .getfield 710, .iload 1, .iload 2, .iload 3, .invokevirtual 66, .sipush 1, .ireturn]
  | _ => []
def zP_123 : Nat → List Nat
  | 0 => [0, 1, 2, 5, 6, 9, 10, 13, 16, 17, 18]
  | 1 => [18, 19, 22, 25, 26, 28, 31]
  | 2 => [31, 33, 34]
  | 3 => [34, 35, 38, 39, 40, 43, 44]
  | 4 => [44, 45, 48, 49, 50, 51, 54, 55, 56]
  | _ => [56]
def zB_124 : Nat → List Instr
  | 0 => [.aload 0, .getfield 710, .iload 1, .invokevirtual 65, .ifCond .ne 1, .sipush (-1), .ireturn]
  | 1 => [.aload 0, .getfield 710, .getfield 512, .iload 1, .iaload, .sipush (-1), .if_icmp .eq 2, .sipush 1, .goto 3]
  | 2 => [.sipush 0]
  | 3 => [.istore 2, .aload 0, .getfield 710, .iload 1, .sipush (-1), .sipush 0, .invokevirtual 66, .iload 2, .ifCond .eq 4, .sipush 1, .goto 5]
  | 4 => [.sipush 0]
  | 5 => [.ireturn]
  | _ => []
def zP_124 : Nat → List Nat
  | 0 => [0, 1, 4, 5, 8, 11, 12, 13]
  | 1 => [13, 14, 17, 20, 21, 22, 23, 26, 27, 30]
  | 2 => [30, 31]
  | 3 => [31, 32, 33, 36, 37, 38, 39, 42, 43, 46, 47, 50]
  | 4 => [50, 51]
  | 5 => [51, 52]
  | _ => [52]
def zB_125 : Nat → List Instr
  | 0 => [.aload 0, .sipush 0, .putfield 716, .aload 0, .getfield 710, .iload 1, .invokevirtual 65, .ifCond .ne 1, .sipush (-1), .ireturn]
  | 1 => [.aload 0, .aload 0, .getfield 710, .iload 1, .iload 2, .sipush 1, .invokevirtual 68, .invokevirtual 136, .istore 4, .iload 4, .ifCond .eq 2, .iload 4, .ireturn]
  | 2 => [.aload 0, .getfield 710, .getfield 514, .iload 1, .aaload, .iload 2, .aload 0, .getfield 710, .getfield 512, .iload 1, .iaload, .iload 3, .invokestatic 67, .iastore, .sipush 1, .ireturn]
  | _ => []
def zP_125 : Nat → List Nat
  | 0 => [0, 1, 2, 5, 6, 9, 10, 13, 16, 17, 18]
  | 1 => [18, 19, 20, 23, 24, 25, 26, 29, 32, 34, 36, 39, 41, 42]
  | 2 => [42, 43, 46, 49, 50, 51, 52, 53, 56, 59, 60, 61, 62, 65, 66, 67, 68]
  | _ => [68]
def zB_126 : Nat → List Instr
  | 0 => [.aload 0, .iload 1, .iload 3, .iload 2, .sipush 1, .invokevirtual 137, .istore 4, .iload 4, .ifCond .eq 1, .ldc2_w 0, .goto 2]
  | 1 => [.aload 0, .getfield 710, .getfield 515, .sipush 0, .iaload, .i2l]
  | 2 => [.lreturn]
  | _ => []
def zP_126 : Nat → List Nat
  | 0 => [0, 1, 2, 3, 4, 5, 8, 10, 12, 15, 18, 21]
  | 1 => [21, 22, 25, 28, 29, 30, 31]
  | 2 => [31, 32]
  | _ => [32]
def zB_127 : Nat → List Instr
  | 0 => [.aload 0, .getfield 704, .iload 1, .invokevirtual 82, .ifCond .ne 1, .sipush (-1), .ireturn]
  | 1 => [.aload 0, .getfield 704, .getfield 640, .iload 1, .iaload, .lookupswitch 4 #[(1, 2), (2, 3)]]
  | 2 => [.aload 0, .iload 1, .invokevirtual 144, .ireturn]
  | 3 => [.aload 0, .iload 1, .invokevirtual 145, .ireturn]
  | 4 => [.aload 0, .iload 1, .invokevirtual 143, .ireturn]
  | _ => []
def zP_127 : Nat → List Nat
  | 0 => [0, 1, 4, 5, 8, 11, 12, 13]
  | 1 => [13, 14, 17, 20, 21, 22, 48]
  | 2 => [48, 49, 50, 53, 54]
  | 3 => [54, 55, 56, 59, 60]
  | 4 => [60, 61, 62, 65, 66]
  | _ => [66]
def zB_128 : Nat → List Instr
  | 0 => [.aload 0, .getfield 704, .iload 1, .invokevirtual 82, .ifCond .ne 1, .sipush (-1), .ireturn]
  | 1 => [.aload 0, .getfield 704, .getfield 640, .iload 1, .iaload, .sipush 2, .if_icmp .ne 2, .aload 0, .invokevirtual 147, .goto 3]
  | 2 => [.aload 0, .iload 1, .invokevirtual 146]
  | 3 => [.ireturn]
  | _ => []
def zP_128 : Nat → List Nat
  | 0 => [0, 1, 4, 5, 8, 11, 12, 13]
  | 1 => [13, 14, 17, 20, 21, 22, 23, 26, 27, 30, 33]
  | 2 => [33, 34, 35, 38]
  | 3 => [38, 39]
  | _ => [39]
def zB_129 : Nat → List Instr
  | 0 => [.aload 0, .sipush 0, .putfield 716, .aload 0, .getfield 704, .iload 1, .invokevirtual 82, .ifCond .ne 1, .sipush (-1), .ireturn]
  | 1 => [.iload 2, .sipush 0, .sipush 2, .invokestatic 133, .ifCond .ne 2, .sipush (-2), .ireturn]
  | 2 => [.aload 0, .getfield 704, .getfield 640, .iload 1, .iaload, .iload 2, .if_icmp .ge 3, .aload 0, .sipush 2, .invokevirtual 136, .goto 4]
  | 3 => [.sipush 1]
  | 4 => [.ireturn]
  | _ => []
def zP_129 : Nat → List Nat
  | 0 => [0, 1, 2, 5, 6, 9, 10, 13, 16, 17, 18]
  | 1 => [18, 19, 20, 21, 24, 27, 29, 30]
  | 2 => [30, 31, 34, 37, 38, 39, 40, 43, 44, 45, 48, 51]
  | 3 => [51, 52]
  | 4 => [52, 53]
  | _ => [53]
def zB_130 : Nat → List Instr
  | 0 => [.aload 0, .getfield 715, .ireturn]
  | _ => []
def zP_130 : Nat → List Nat
  | 0 => [0, 1, 4, 5]
  | _ => [5]
def zB_131 : Nat → List Instr
  | 0 => [.aload 0, .getfield 716, .ireturn]
  | _ => []
def zP_131 : Nat → List Nat
  | 0 => [0, 1, 4, 5]
  | _ => [5]
def zB_132 : Nat → List Instr
  | 0 => [.iload 1, .tableswitch 9 0 7 #[1, 2, 3, 4, 5, 6, 7, 8]]
  | 1 => [.aload 0, .getfield 704, .getfield 645, .ireturn]
  | 2 => [.aload 0, .getfield 705, .getfield 452, .ireturn]
  | 3 => [.aload 0, .getfield 706, .getfield 197, .ireturn]
  | 4 => [.aload 0, .getfield 707, .getfield 259, .ireturn]
  | 5 => [.aload 0, .getfield 708, .getfield 68, .ireturn]
  | 6 => [.aload 0, .getfield 709, .getfield 579, .ireturn]
  | 7 => [.aload 0, .getfield 711, .getfield 385, .ireturn]
  | 8 => [.aload 0, .getfield 712, .getfield 1, .ireturn]
  | 9 => [.sipush (-2), .ireturn]
  | _ => []
def zP_132 : Nat → List Nat
  | 0 => [0, 1, 48]
  | 1 => [48, 49, 52, 55, 56]
  | 2 => [56, 57, 60, 63, 64]
  | 3 => [64, 65, 68, 71, 72]
  | 4 => [72, 73, 76, 79, 80]
  | 5 => [80, 81, 84, 87, 88]
  | 6 => [88, 89, 92, 95, 96]
  | 7 => [96, 97, 100, 103, 104]
  | 8 => [104, 105, 108, 111, 112]
  | 9 => [112, 114, 115]
  | _ => [115]
def zB_133 : Nat → List Instr
  | 0 => [.iload 0, .iload 1, .if_icmp .lt 1, .iload 0, .iload 2, .if_icmp .gt 1, .sipush 1, .goto 2]
  | 1 => [.sipush 0]
  | 2 => [.ireturn]
  | _ => []
def zP_133 : Nat → List Nat
  | 0 => [0, 1, 2, 5, 6, 7, 10, 11, 14]
  | 1 => [14, 15]
  | 2 => [15, 16]
  | _ => [16]
def zB_134 : Nat → List Instr
  | 0 => [.iload 0, .sipush 0, .sipush 2, .invokestatic 133, .ireturn]
  | _ => []
def zP_134 : Nat → List Nat
  | 0 => [0, 1, 2, 3, 6, 7]
  | _ => [7]
def zB_135 : Nat → List Instr
  | 0 => [.sipush 0, .istore 3, .sipush 0, .istore 4]
  | 1 => [.iload 4, .iload 1, .if_icmp .ge 3, .iload 4, .aload 0, .arraylength, .if_icmp .ge 3, .aload 0, .iload 4, .iaload, .iload 2, .if_icmp .ne 2, .iinc 3 1]
  | 2 => [.iinc 4 1, .goto 1]
  | 3 => [.iload 3, .ireturn]
  | _ => []
def zP_135 : Nat → List Nat
  | 0 => [0, 1, 2, 3, 5]
  | 1 => [5, 7, 8, 11, 13, 14, 15, 18, 19, 21, 22, 23, 26, 29]
  | 2 => [29, 32, 35]
  | 3 => [35, 36, 37]
  | _ => [37]
def zB_136 : Nat → List Instr
  | 0 => [.aload 0, .iload 1, .putfield 716, .iload 1, .ifCond .ne 1, .sipush 0, .goto 2]
  | 1 => [.sipush (-10), .iload 1, .isub]
  | 2 => [.ireturn]
  | _ => []
def zP_136 : Nat → List Nat
  | 0 => [0, 1, 2, 5, 6, 9, 10, 13]
  | 1 => [13, 15, 16, 17]
  | 2 => [17, 18]
  | _ => [18]
def zB_137 : Nat → List Instr
  | 0 => [.aload 0, .sipush 0, .putfield 716, .aload 0, .getfield 710, .iload 1, .invokevirtual 65, .ifCond .ne 1, .sipush (-1), .ireturn]
  | 1 => [.iload 2, .invokestatic 134, .ifCond .eq 2, .aload 0, .aload 0, .getfield 710, .iload 1, .iload 2, .iload 3, .iload 4, .invokevirtual 69, .invokevirtual 136, .goto 3]
  | 2 => [.sipush (-2)]
  | 3 => [.ireturn]
  | _ => []
def zP_137 : Nat → List Nat
  | 0 => [0, 1, 2, 5, 6, 9, 10, 13, 16, 17, 18]
  | 1 => [18, 19, 22, 25, 26, 27, 30, 31, 32, 33, 35, 38, 41, 44]
  | 2 => [44, 46]
  | 3 => [46, 47]
  | _ => [47]
def zB_138 : Nat → List Instr
  | 0 => [.aload 0, .iload 1, .iload 2, .iload 3, .aload 0, .getfield 705, .getfield 452, .invokevirtual 137, .istore 4, .iload 4, .ifCond .eq 1, .iload 4, .ireturn]
  | 1 => [.aload 0, .getfield 713, .aload 0, .getfield 705, .aload 0, .getfield 704, .invokevirtual 21, .aload 0, .getfield 713, .aload 0, .getfield 710, .getfield 515, .invokevirtual 34, .ifCond .eq 2, .sipush 0, .goto 3]
  | 2 => [.sipush (-2)]
  | 3 => [.ireturn]
  | _ => []
def zP_138 : Nat → List Nat
  | 0 => [0, 1, 2, 3, 4, 5, 8, 11, 14, 16, 18, 21, 23, 24]
  | 1 => [24, 25, 28, 29, 32, 33, 36, 39, 40, 43, 44, 47, 50, 53, 56, 57, 60]
  | 2 => [60, 62]
  | 3 => [62, 63]
  | _ => [63]
def zB_139 : Nat → List Instr
  | 0 => [.aload 0, .getfield 705, .iload 1, .iload 2, .aload 0, .getfield 704, .getfield 641, .iload 2, .iaload, .invokevirtual 64, .ireturn]
  | _ => []
def zP_139 : Nat → List Nat
  | 0 => [0, 1, 4, 5, 6, 7, 10, 13, 14, 15, 18, 19]
  | _ => [19]
def zB_140 : Nat → List Instr
  | 0 => [.sipush 0, .istore 2, .sipush 0, .istore 3]
  | 1 => [.iload 3, .aload 0, .getfield 704, .getfield 645, .if_icmp .ge 3, .aload 0, .iload 1, .iload 3, .invokevirtual 139, .ifCond .eq 2, .iload 2, .sipush 1, .iload 3, .ishl, .ior, .istore 2]
  | 2 => [.iinc 3 1, .goto 1]
  | 3 => [.iload 2, .ireturn]
  | _ => []
def zP_140 : Nat → List Nat
  | 0 => [0, 1, 2, 3, 4]
  | 1 => [4, 5, 6, 9, 12, 15, 16, 17, 18, 21, 24, 25, 26, 27, 28, 29, 30]
  | 2 => [30, 33, 36]
  | 3 => [36, 37, 38]
  | _ => [38]
def zB_141 : Nat → List Instr
  | 0 => [.aload 0, .getfield 709, .aload 0, .getfield 706, .getfield 193, .iload 1, .iaload, .aload 0, .getfield 706, .getfield 194, .iload 1, .iaload, .aload 0, .getfield 706, .getfield 195, .iload 1, .iaload, .invokevirtual 74, .istore 2, .aload 0, .getfield 712, .aload 0, .getfield 706, .iload 1, .iload 2, .aload 0, .getfield 705, .getfield 448, .aload 0, .getfield 706, .getfield 192, .iload 1, .iaload, .iaload, .invokevirtual 6, .ireturn]
  | _ => []
def zP_141 : Nat → List Nat
  | 0 => [0, 1, 4, 5, 8, 11, 12, 13, 14, 17, 20, 21, 22, 23, 26, 29, 30, 31, 34, 35, 36, 39, 40, 43, 44, 45, 46, 49, 52, 53, 56, 59, 60, 61, 62, 65, 66]
  | _ => [66]
def zB_142 : Nat → List Instr
  | 0 => [.aload 0, .sipush 31, .aload 0, .getfield 715, .imul, .iload 1, .iadd, .putfield 715, .return_]
  | _ => []
def zP_142 : Nat → List Nat
  | 0 => [0, 1, 3, 4, 7, 8, 9, 10, 13, 14]
  | _ => [14]
def zB_143 : Nat → List Instr
  | 0 => [.aload 0, .sipush 1, .invokevirtual 142, .aload 0, .getfield 704, .getfield 641, .iload 1, .iaload, .ireturn]
  | _ => []
def zP_143 : Nat → List Nat
  | 0 => [0, 1, 2, 5, 6, 9, 12, 13, 14, 15]
  | _ => [15]
def zB_144 : Nat → List Instr
  | 0 => [.aload 0, .sipush 2, .invokevirtual 142, .aload 0, .iload 1, .invokevirtual 143, .aload 0, .getfield 704, .getfield 643, .iload 1, .iaload, .iadd, .ireturn]
  | _ => []
def zP_144 : Nat → List Nat
  | 0 => [0, 1, 2, 5, 6, 7, 10, 11, 14, 17, 18, 19, 20, 21]
  | _ => [21]
def zB_145 : Nat → List Instr
  | 0 => [.aload 0, .sipush 3, .invokevirtual 142, .aload 0, .iload 1, .invokevirtual 144, .istore 2, .iload 2, .aload 0, .iload 1, .invokevirtual 143, .iadd, .ireturn]
  | _ => []
def zP_145 : Nat → List Nat
  | 0 => [0, 1, 2, 5, 6, 7, 10, 11, 12, 13, 14, 17, 18, 19]
  | _ => [19]
def zB_146 : Nat → List Instr
  | 0 => [.aload 0, .sipush 4, .invokevirtual 142, .iload 1, .ireturn]
  | _ => []
def zP_146 : Nat → List Nat
  | 0 => [0, 1, 2, 5, 6, 7]
  | _ => [7]
def zB_147 : Nat → List Instr
  | 0 => [.aload 0, .sipush 5, .invokevirtual 142, .sipush 70, .ireturn]
  | _ => []
def zP_147 : Nat → List Nat
  | 0 => [0, 1, 2, 5, 7, 8]
  | _ => [8]
def zB_148 : Nat → List Instr
  | 0 => [.aload 0, .iload 1, .putfield 768, .sipush (-10), .iload 1, .isub, .ireturn]
  | _ => []
def zP_148 : Nat → List Nat
  | 0 => [0, 1, 2, 5, 7, 8, 9, 10]
  | _ => [10]
def zB_149 : Nat → List Instr
  | 0 => [.aload 0, .iload 1, .putfield 768, .ldc2_w 5, .lreturn]
  | _ => []
def zP_149 : Nat → List Nat
  | 0 => [0, 1, 2, 5, 8, 9]
  | _ => [9]
def zB_150 : Nat → List Instr
  | 0 => [.iload 0, .iload 1, .if_icmp .lt 1, .iload 0, .iload 2, .if_icmp .gt 1, .sipush 1, .goto 2]
  | 1 => [.sipush 0]
  | 2 => [.ireturn]
  | _ => []
def zP_150 : Nat → List Nat
  | 0 => [0, 1, 2, 5, 6, 7, 10, 11, 14]
  | 1 => [14, 15]
  | 2 => [15, 16]
  | _ => [16]
def zB_151 : Nat → List Instr
  | 0 => [.iload 0, .sipush 0, .sipush 100000, .invokestatic 150, .ireturn]
  | _ => []
def zP_151 : Nat → List Nat
  | 0 => [0, 1, 2, 4, 7, 8]
  | _ => [8]
def zB_152 : Nat → List Instr
  | 0 => [.iload 1, .ifCond .lt 1, .iload 1, .aload 0, .getfield 770, .if_icmp .ge 1, .sipush 1, .goto 2]
  | 1 => [.sipush 0]
  | 2 => [.ireturn]
  | _ => []
def zP_152 : Nat → List Nat
  | 0 => [0, 1, 4, 5, 6, 9, 12, 13, 16]
  | 1 => [16, 17]
  | 2 => [17, 18]
  | _ => [18]
def zB_153 : Nat → List Instr
  | 0 => [.iload 1, .ifCond .lt 1, .iload 1, .aload 0, .getfield 774, .if_icmp .ge 1, .sipush 1, .goto 2]
  | 1 => [.sipush 0]
  | 2 => [.ireturn]
  | _ => []
def zP_153 : Nat → List Nat
  | 0 => [0, 1, 4, 5, 6, 9, 12, 13, 16]
  | 1 => [16, 17]
  | 2 => [17, 18]
  | _ => [18]
def zB_154 : Nat → List Instr
  | 0 => [.iload 1, .sipush 0, .sipush 2, .invokestatic 150, .ifCond .eq 1, .iload 2, .sipush 0, .sipush 9, .invokestatic 150, .ifCond .eq 1, .iload 3, .sipush 1, .sipush 1000000, .invokestatic 150, .ifCond .ne 2]
  | 1 => [.sipush (-2), .ireturn]
  | 2 => [.aload 0, .getfield 770, .sipush 10, .if_icmp .ne 3, .sipush (-4), .ireturn]
  | 3 => [.aload 0, .getfield 771, .aload 0, .getfield 770, .iload 1, .iastore, .aload 0, .getfield 772, .aload 0, .getfield 770, .iload 2, .iastore, .aload 0, .getfield 773, .aload 0, .getfield 770, .iload 3, .iastore, .aload 0, .dup, .getfield 770, .sipush 1, .iadd, .putfield 770, .aload 0, .getfield 770, .sipush 1, .isub, .ireturn]
  | _ => []
def zP_154 : Nat → List Nat
  | 0 => [0, 1, 2, 3, 6, 9, 10, 11, 13, 16, 19, 20, 21, 23, 26, 29]
  | 1 => [29, 31, 32]
  | 2 => [32, 33, 36, 38, 41, 43, 44]
  | 3 => [44, 45, 48, 49, 52, 53, 54, 55, 58, 59, 62, 63, 64, 65, 68, 69, 72, 73, 74, 75, 76, 79, 80, 81, 84, 85, 88, 89, 90, 91]
  | _ => [91]
def zB_155 : Nat → List Instr
  | 0 => [.iload 1, .sipush 0, .sipush 99, .invokestatic 150, .ifCond .ne 1, .sipush (-2), .ireturn]
  | 1 => [.aload 0, .getfield 774, .sipush 10, .if_icmp .ne 2, .sipush (-4), .ireturn]
  | 2 => [.aload 0, .getfield 775, .aload 0, .getfield 774, .iload 1, .iastore, .aload 0, .dup, .getfield 774, .sipush 1, .iadd, .putfield 774, .aload 0, .getfield 774, .sipush 1, .isub, .ireturn]
  | _ => []
def zP_155 : Nat → List Nat
  | 0 => [0, 1, 2, 4, 7, 10, 12, 13]
  | 1 => [13, 14, 17, 19, 22, 24, 25]
  | 2 => [25, 26, 29, 30, 33, 34, 35, 36, 37, 40, 41, 42, 45, 46, 49, 50, 51, 52]
  | _ => [52]
def zB_156 : Nat → List Instr
  | 0 => [.aload 0, .iload 1, .invokevirtual 153, .ifCond .eq 1, .aload 0, .iload 2, .invokevirtual 152, .ifCond .ne 2]
  | 1 => [.sipush (-1), .ireturn]
  | 2 => [.iload 3, .sipush 0, .sipush 99, .invokestatic 150, .ifCond .ne 3, .sipush (-2), .ireturn]
  | 3 => [.aload 0, .getfield 776, .sipush 10, .iload 1, .imul, .iload 2, .iadd, .iaload, .istore 4, .aload 0, .getfield 776, .sipush 10, .iload 1, .imul, .iload 2, .iadd, .iload 3, .iastore, .iload 4, .ireturn]
  | _ => []
def zP_156 : Nat → List Nat
  | 0 => [0, 1, 2, 5, 8, 9, 10, 13, 16]
  | 1 => [16, 17, 18]
  | 2 => [18, 19, 20, 22, 25, 28, 30, 31]
  | 3 => [31, 32, 35, 37, 38, 39, 40, 41, 42, 44, 45, 48, 50, 51, 52, 53, 54, 55, 56, 58, 59]
  | _ => [59]
def zB_157 : Nat → List Instr
  | 0 => [.aload 0, .iload 1, .invokevirtual 153, .ifCond .ne 1, .sipush (-1), .ireturn]
  | 1 => [.iload 2, .sipush 0, .sipush 9, .invokestatic 150, .ifCond .ne 2, .sipush (-2), .ireturn]
  | 2 => [.aload 0, .getfield 777, .sipush 10, .iload 1, .imul, .iload 2, .iadd, .baload, .iload 3, .if_icmp .ne 3, .sipush 0, .goto 4]
  | 3 => [.sipush 1]
  | 4 => [.istore 4, .aload 0, .getfield 777, .sipush 10, .iload 1, .imul, .iload 2, .iadd, .iload 3, .bastore, .iload 4, .ireturn]
  | _ => []
def zP_157 : Nat → List Nat
  | 0 => [0, 1, 2, 5, 8, 9, 10]
  | 1 => [10, 11, 12, 14, 17, 20, 22, 23]
  | 2 => [23, 24, 27, 29, 30, 31, 32, 33, 34, 35, 38, 39, 42]
  | 3 => [42, 43]
  | 4 => [43, 45, 46, 49, 51, 52, 53, 54, 55, 56, 57, 59, 60]
  | _ => [60]
def zB_158 : Nat → List Instr
  | 0 => [.aload 0, .getfield 777, .sipush 10, .iload 1, .imul, .iload 2, .iadd, .baload, .ifCond .eq 1, .sipush 1, .ireturn]
  | 1 => [.sipush 0, .istore 3]
  | 2 => [.iload 3, .aload 0, .getfield 787, .if_icmp .ge 4, .aload 0, .getfield 788, .iload 3, .iaload, .iload 1, .if_icmp .ne 3, .aload 0, .getfield 772, .aload 0, .getfield 789, .iload 3, .iaload, .iaload, .iload 2, .if_icmp .ne 3, .sipush 1, .ireturn]
  | 3 => [.iinc 3 1, .goto 2]
  | 4 => [.sipush 0, .ireturn]
  | _ => []
def zP_158 : Nat → List Nat
  | 0 => [0, 1, 4, 6, 7, 8, 9, 10, 11, 14, 15, 16]
  | 1 => [16, 17, 18]
  | 2 => [18, 19, 20, 23, 26, 27, 30, 31, 32, 33, 36, 37, 40, 41, 44, 45, 46, 47, 48, 51, 52, 53]
  | 3 => [53, 56, 59]
  | 4 => [59, 60, 61]
  | _ => [61]
def zB_159 : Nat → List Instr
  | 0 => [.aload 0, .getfield 776, .sipush 10, .iload 1, .imul, .iload 2, .iadd, .iaload, .ifCond .le 1, .aload 0, .iload 1, .aload 0, .getfield 772, .iload 2, .iaload, .invokevirtual 158, .ifCond .ne 1, .sipush 1, .goto 2]
  | 1 => [.sipush 0]
  | 2 => [.ireturn]
  | _ => []
def zP_159 : Nat → List Nat
  | 0 => [0, 1, 4, 6, 7, 8, 9, 10, 11, 14, 15, 16, 17, 20, 21, 22, 25, 28, 29, 32]
  | 1 => [32, 33]
  | 2 => [33, 34]
  | _ => [34]
def zB_160 : Nat → List Instr
  | 0 => [.aload 0, .iload 1, .invokevirtual 153, .ifCond .eq 1, .aload 0, .iload 2, .invokevirtual 152, .ifCond .ne 2]
  | 1 => [.sipush (-1), .ireturn]
  | 2 => [.aload 0, .iload 1, .iload 2, .invokevirtual 159, .ifCond .eq 3, .sipush 1, .goto 4]
  | 3 => [.sipush 0]
  | 4 => [.ireturn]
  | _ => []
def zP_160 : Nat → List Nat
  | 0 => [0, 1, 2, 5, 8, 9, 10, 13, 16]
  | 1 => [16, 17, 18]
  | 2 => [18, 19, 20, 21, 24, 27, 28, 31]
  | 3 => [31, 32]
  | 4 => [32, 33]
  | _ => [33]
def zB_161 : Nat → List Instr
  | 0 => [.sipush 0, .istore 3, .sipush 0, .istore 4]
  | 1 => [.iload 4, .iload 1, .if_icmp .ge 4, .iload 3, .aload 0, .iload 4, .iaload, .iload 2, .if_icmp .ne 2, .sipush 1, .goto 3]
  | 2 => [.sipush 0]
  | 3 => [.iadd, .istore 3, .iinc 4 1, .goto 1]
  | 4 => [.iload 3, .ireturn]
  | _ => []
def zP_161 : Nat → List Nat
  | 0 => [0, 1, 2, 3, 5]
  | 1 => [5, 7, 8, 11, 12, 13, 15, 16, 17, 20, 21, 24]
  | 2 => [24, 25]
  | 3 => [25, 26, 27, 30, 33]
  | 4 => [33, 34, 35]
  | _ => [35]
def zB_162 : Nat → List Instr
  | 0 => [.aload 0, .iload 1, .invokevirtual 152, .ifCond .ne 1, .sipush (-1), .ireturn]
  | 1 => [.iload 2, .tableswitch 10 0 7 #[2, 3, 4, 5, 6, 7, 8, 9]]
  | 2 => [.aload 0, .getfield 771, .iload 1, .iaload, .ireturn]
  | 3 => [.aload 0, .getfield 772, .iload 1, .iaload, .ireturn]
  | 4 => [.aload 0, .getfield 773, .iload 1, .iaload, .ireturn]
  | 5 => [.aload 0, .getfield 822, .iload 1, .iaload, .ireturn]
  | 6 => [.aload 0, .getfield 789, .aload 0, .getfield 787, .iload 1, .invokestatic 161, .ireturn]
  | 7 => [.aload 0, .getfield 794, .aload 0, .getfield 793, .iload 1, .invokestatic 161, .ireturn]
  | 8 => [.aload 0, .getfield 805, .aload 0, .getfield 804, .iload 1, .invokestatic 161, .ireturn]
  | 9 => [.aload 0, .getfield 814, .aload 0, .getfield 813, .iload 1, .invokestatic 161, .ireturn]
  | 10 => [.sipush (-2), .ireturn]
  | _ => []
def zP_162 : Nat → List Nat
  | 0 => [0, 1, 2, 5, 8, 9, 10]
  | 1 => [10, 11, 56]
  | 2 => [56, 57, 60, 61, 62, 63]
  | 3 => [63, 64, 67, 68, 69, 70]
  | 4 => [70, 71, 74, 75, 76, 77]
  | 5 => [77, 78, 81, 82, 83, 84]
  | 6 => [84, 85, 88, 89, 92, 93, 96, 97]
  | 7 => [97, 98, 101, 102, 105, 106, 109, 110]
  | 8 => [110, 111, 114, 115, 118, 119, 122, 123]
  | 9 => [123, 124, 127, 128, 131, 132, 135, 136]
  | 10 => [136, 138, 139]
  | _ => [139]
def zB_163 : Nat → List Instr
  | 0 => [.aload 0, .iload 1, .invokevirtual 153, .ifCond .ne 1, .sipush (-1), .ireturn]
  | 1 => [.sipush 0, .istore 3, .iload 2, .tableswitch 14 0 3 #[2, 3, 8, 13]]
  | 2 => [.aload 0, .getfield 775, .iload 1, .iaload, .ireturn]
  | 3 => [.sipush 0, .istore 4]
  | 4 => [.iload 4, .sipush 10, .if_icmp .ge 7, .iload 3, .aload 0, .iload 1, .iload 4, .invokevirtual 158, .ifCond .eq 5, .sipush 1, .iload 4, .ishl, .goto 6]
  | 5 => [.sipush 0]
  | 6 => [.ior, .istore 3, .iinc 4 1, .goto 4]
  | 7 => [.iload 3, .ireturn]
  | 8 => [.sipush 0, .istore 4]
  | 9 => [.iload 4, .aload 0, .getfield 770, .if_icmp .ge 12, .iload 3, .aload 0, .iload 1, .iload 4, .invokevirtual 159, .ifCond .eq 10, .sipush 1, .iload 4, .ishl, .goto 11]
  | 10 => [.sipush 0]
  | 11 => [.ior, .istore 3, .iinc 4 1, .goto 9]
  | 12 => [.iload 3, .ireturn]
  | 13 => [.aload 0, .getfield 788, .aload 0, .getfield 787, .iload 1, .invokestatic 161, .ireturn]
  | 14 => [.sipush (-2), .ireturn]
  | _ => []
def zP_163 : Nat → List Nat
  | 0 => [0, 1, 2, 5, 8, 9, 10]
  | 1 => [10, 11, 12, 13, 44]
  | 2 => [44, 45, 48, 49, 50, 51]
  | 3 => [51, 52, 54]
  | 4 => [54, 56, 58, 61, 62, 63, 64, 66, 69, 72, 73, 75, 76, 79]
  | 5 => [79, 80]
  | 6 => [80, 81, 82, 85, 88]
  | 7 => [88, 89, 90]
  | 8 => [90, 91, 93]
  | 9 => [93, 95, 96, 99, 102, 103, 104, 105, 107, 110, 113, 114, 116, 117, 120]
  | 10 => [120, 121]
  | 11 => [121, 122, 123, 126, 129]
  | 12 => [129, 130, 131]
  | 13 => [131, 132, 135, 136, 139, 140, 143, 144]
  | 14 => [144, 146, 147]
  | _ => [147]
def zB_164 : Nat → List Instr
  | 0 => [.sipush 0, .istore 1]
  | 1 => [.iload 1, .aload 0, .getfield 774, .if_icmp .ge 4, .sipush 0, .istore 2]
  | 2 => [.iload 2, .aload 0, .getfield 770, .if_icmp .ge 3, .aload 0, .getfield 779, .sipush 10, .iload 1, .imul, .iload 2, .iadd, .aload 0, .iload 1, .iload 2, .invokevirtual 159, .bastore, .iinc 2 1, .goto 2]
  | 3 => [.iinc 1 1, .goto 1]
  | 4 => [.return_]
  | _ => []
def zP_164 : Nat → List Nat
  | 0 => [0, 1, 2]
  | 1 => [2, 3, 4, 7, 10, 11, 12]
  | 2 => [12, 13, 14, 17, 20, 21, 24, 26, 27, 28, 29, 30, 31, 32, 33, 36, 37, 40, 43]
  | 3 => [43, 46, 49]
  | 4 => [49, 50]
  | _ => [50]
def zB_165 : Nat → List Instr
  | 0 => [.aload 0, .invokevirtual 164, .sipush 0, .istore 1]
  | 1 => [.iload 1, .sipush 1, .aload 0, .getfield 770, .ishl, .if_icmp .ge 2, .aload 0, .getfield 778, .sipush 1024, .aload 0, .getfield 774, .imul, .iload 1, .iadd, .sipush 0, .iastore, .iinc 1 1, .goto 1]
  | 2 => [.aload 0, .getfield 774, .sipush 1, .isub, .istore 1]
  | 3 => [.iload 1, .ifCond .lt 11, .sipush 0, .istore 2]
  | 4 => [.iload 2, .sipush 1, .aload 0, .getfield 770, .ishl, .if_icmp .ge 10, .aload 0, .getfield 778, .sipush 1024, .iload 1, .imul, .sipush 1024, .iadd, .iload 2, .iadd, .iaload, .istore 3, .sipush 0, .istore 4]
  | 5 => [.iload 4, .aload 0, .getfield 770, .if_icmp .ge 9, .iload 2, .iload 4, .ishr, .sipush 1, .iand, .ifCond .ne 8, .aload 0, .getfield 779, .sipush 10, .iload 1, .imul, .iload 4, .iadd, .baload, .ifCond .eq 8, .aload 0, .getfield 776, .sipush 10, .iload 1, .imul, .iload 4, .iadd, .iaload, .aload 0, .getfield 778, .sipush 1024, .iload 1, .imul, .sipush 1024, .iadd, .iload 2, .sipush 1, .iload 4, .ishl, .ior, .iadd, .iaload, .iadd, .istore 5, .iload 5, .iload 3, .if_icmp .le 6, .iload 5, .goto 7]
  | 6 => [.iload 3]
  | 7 => [.istore 3]
  | 8 => [.iinc 4 1, .goto 5]
  | 9 => [.aload 0, .getfield 778, .sipush 1024, .iload 1, .imul, .iload 2, .iadd, .iload 3, .iastore, .iinc 2 1, .goto 4]
  | 10 => [.iinc 1 (-1), .goto 3]
  | 11 => [.return_]
  | _ => []
def zP_165 : Nat → List Nat
  | 0 => [0, 1, 4, 5, 6]
  | 1 => [6, 7, 8, 9, 12, 13, 16, 17, 20, 23, 24, 27, 28, 29, 30, 31, 32, 35, 38]
  | 2 => [38, 39, 42, 43, 44, 45]
  | 3 => [45, 46, 49, 50, 51]
  | 4 => [51, 52, 53, 54, 57, 58, 61, 62, 65, 68, 69, 70, 73, 74, 75, 76, 77, 78, 79, 81]
  | 5 => [81, 83, 84, 87, 90, 91, 93, 94, 95, 96, 99, 100, 103, 105, 106, 107, 109, 110, 111, 114, 115, 118, 120, 121, 122, 124, 125, 126, 127, 130, 133, 134, 135, 138, 139, 140, 141, 143, 144, 145, 146, 147, 148, 150, 152, 153, 156, 158, 161]
  | 6 => [161, 162]
  | 7 => [162, 163]
  | 8 => [163, 166, 169]
  | 9 => [169, 170, 173, 176, 177, 178, 179, 180, 181, 182, 185, 188]
  | 10 => [188, 191, 194]
  | 11 => [194, 195]
  | _ => [195]
def zB_166 : Nat → List Instr
  | 0 => [.aload 0, .invokevirtual 165, .aload 0, .getfield 778, .sipush 0, .iaload, .ireturn]
  | _ => []
def zP_166 : Nat → List Nat
  | 0 => [0, 1, 4, 5, 8, 9, 10, 11]
  | _ => [11]
def zB_167 : Nat → List Instr
  | 0 => [.aload 0, .invokevirtual 165, .sipush 0, .istore 1, .sipush 0, .istore 2]
  | 1 => [.iload 2, .aload 0, .getfield 774, .if_icmp .ge 9, .aload 0, .getfield 780, .iload 2, .sipush (-9), .iastore, .aload 0, .getfield 770, .sipush 1, .isub, .istore 3]
  | 2 => [.iload 3, .ifCond .lt 6, .iload 1, .iload 3, .ishr, .sipush 1, .iand, .ifCond .ne 3, .aload 0, .getfield 779, .sipush 10, .iload 2, .imul, .iload 3, .iadd, .baload, .ifCond .eq 3, .sipush 1, .goto 4]
  | 3 => [.sipush 0]
  | 4 => [.istore 4, .iload 4, .ifCond .eq 5, .aload 0, .getfield 776, .sipush 10, .iload 2, .imul, .iload 3, .iadd, .iaload, .aload 0, .getfield 778, .sipush 1024, .iload 2, .imul, .sipush 1024, .iadd, .iload 1, .sipush 1, .iload 3, .ishl, .ior, .iadd, .iaload, .iadd, .aload 0, .getfield 778, .sipush 1024, .iload 2, .imul, .iload 1, .iadd, .iaload, .if_icmp .ne 5, .aload 0, .getfield 780, .iload 2, .iload 3, .iastore]
  | 5 => [.iinc 3 (-1), .goto 2]
  | 6 => [.iload 1, .aload 0, .getfield 780, .iload 2, .iaload, .sipush (-9), .if_icmp .ne 7, .sipush 0, .goto 8]
  | 7 => [.sipush 1, .aload 0, .getfield 780, .iload 2, .iaload, .ishl]
  | 8 => [.ior, .istore 1, .iinc 2 1, .goto 1]
  | 9 => [.return_]
  | _ => []
def zP_167 : Nat → List Nat
  | 0 => [0, 1, 4, 5, 6, 7, 8]
  | 1 => [8, 9, 10, 13, 16, 17, 20, 21, 23, 24, 25, 28, 29, 30, 31]
  | 2 => [31, 32, 35, 36, 37, 38, 39, 40, 43, 44, 47, 49, 50, 51, 52, 53, 54, 57, 58, 61]
  | 3 => [61, 62]
  | 4 => [62, 64, 66, 69, 70, 73, 75, 76, 77, 78, 79, 80, 81, 84, 87, 88, 89, 92, 93, 94, 95, 96, 97, 98, 99, 100, 101, 102, 105, 108, 109, 110, 111, 112, 113, 116, 117, 120, 121, 122, 123]
  | 5 => [123, 126, 129]
  | 6 => [129, 130, 131, 134, 135, 136, 138, 141, 142, 145]
  | 7 => [145, 146, 147, 150, 151, 152, 153]
  | 8 => [153, 154, 155, 158, 161]
  | 9 => [161, 162]
  | _ => [162]
def zB_168 : Nat → List Instr
  | 0 => [.aload 0, .getfield 776, .sipush 10, .iload 1, .imul, .iload 2, .iadd, .iaload, .aload 0, .getfield 776, .sipush 10, .iload 1, .imul, .iload 3, .iadd, .iaload, .isub, .istore 4, .iload 4, .ifCond .gt 1, .iload 4, .ifCond .ne 2, .iload 2, .iload 3, .if_icmp .ge 2]
  | 1 => [.sipush 1, .goto 3]
  | 2 => [.sipush 0]
  | 3 => [.ireturn]
  | _ => []
def zP_168 : Nat → List Nat
  | 0 => [0, 1, 4, 6, 7, 8, 9, 10, 11, 12, 15, 17, 18, 19, 20, 21, 22, 23, 25, 27, 30, 32, 35, 36, 37, 40]
  | 1 => [40, 41, 44]
  | 2 => [44, 45]
  | 3 => [45, 46]
  | _ => [46]
def zB_169 : Nat → List Instr
  | 0 => [.aload 0, .getfield 775, .iload 1, .iaload, .aload 0, .getfield 775, .iload 2, .iaload, .if_icmp .gt 1, .aload 0, .getfield 775, .iload 1, .iaload, .aload 0, .getfield 775, .iload 2, .iaload, .if_icmp .ne 2, .iload 1, .iload 2, .if_icmp .ge 2]
  | 1 => [.sipush 1, .goto 3]
  | 2 => [.sipush 0]
  | 3 => [.ireturn]
  | _ => []
def zP_169 : Nat → List Nat
  | 0 => [0, 1, 4, 5, 6, 7, 10, 11, 12, 15, 16, 19, 20, 21, 22, 25, 26, 27, 30, 31, 32, 35]
  | 1 => [35, 36, 39]
  | 2 => [39, 40]
  | 3 => [40, 41]
  | _ => [41]
def zB_170 : Nat → List Instr
  | 0 => [.sipush (-9), .istore 2, .sipush 0, .istore 3]
  | 1 => [.iload 3, .aload 0, .getfield 770, .if_icmp .ge 4, .aload 0, .getfield 779, .sipush 10, .iload 1, .imul, .iload 3, .iadd, .baload, .ifCond .eq 3, .aload 0, .getfield 781, .sipush 10, .iload 1, .imul, .iload 3, .iadd, .baload, .ifCond .ne 3, .iload 2, .sipush (-9), .if_icmp .eq 2, .aload 0, .iload 1, .iload 3, .iload 2, .invokevirtual 168, .ifCond .eq 3]
  | 2 => [.iload 3, .istore 2]
  | 3 => [.iinc 3 1, .goto 1]
  | 4 => [.iload 2, .ireturn]
  | _ => []
def zP_170 : Nat → List Nat
  | 0 => [0, 2, 3, 4, 5]
  | 1 => [5, 6, 7, 10, 13, 14, 17, 19, 20, 21, 22, 23, 24, 27, 28, 31, 33, 34, 35, 36, 37, 38, 41, 42, 44, 47, 48, 49, 50, 51, 54, 57]
  | 2 => [57, 58, 59]
  | 3 => [59, 62, 65]
  | 4 => [65, 66, 67]
  | _ => [67]
def zB_171 : Nat → List Instr
  | 0 => [.aload 0, .invokevirtual 164, .sipush 0, .istore 1]
  | 1 => [.iload 1, .sipush 100, .if_icmp .ge 2, .aload 0, .getfield 781, .iload 1, .sipush 0, .bastore, .iinc 1 1, .goto 1]
  | 2 => [.sipush 0, .istore 1]
  | 3 => [.iload 1, .sipush 10, .if_icmp .ge 4, .aload 0, .getfield 782, .iload 1, .sipush (-9), .iastore, .aload 0, .getfield 780, .iload 1, .sipush (-9), .iastore, .iinc 1 1, .goto 3]
  | 4 => [.sipush 1, .istore 1]
  | 5 => [.iload 1, .ifCond .eq 14, .sipush 0, .istore 1, .sipush 0, .istore 2]
  | 6 => [.iload 2, .aload 0, .getfield 774, .if_icmp .ge 13, .aload 0, .getfield 780, .iload 2, .iaload, .sipush (-9), .if_icmp .ne 7, .aload 0, .iload 2, .invokevirtual 170, .goto 8]
  | 7 => [.sipush (-9)]
  | 8 => [.istore 3, .iload 3, .sipush (-9), .if_icmp .ne 9, .goto 12]
  | 9 => [.sipush 1, .istore 1, .aload 0, .getfield 781, .sipush 10, .iload 2, .imul, .iload 3, .iadd, .sipush 1, .bastore, .aload 0, .getfield 782, .iload 3, .iaload, .istore 4, .iload 4, .sipush (-9), .if_icmp .eq 10, .aload 0, .iload 2, .iload 4, .invokevirtual 169, .ifCond .eq 12]
  | 10 => [.iload 4, .sipush (-9), .if_icmp .eq 11, .aload 0, .getfield 780, .iload 4, .sipush (-9), .iastore]
  | 11 => [.aload 0, .getfield 782, .iload 3, .iload 2, .iastore, .aload 0, .getfield 780, .iload 2, .iload 3, .iastore]
  | 12 => [.iinc 2 1, .goto 6]
  | 13 => [.goto 5]
  | 14 => [.return_]
  | _ => []
def zP_171 : Nat → List Nat
  | 0 => [0, 1, 4, 5, 6]
  | 1 => [6, 7, 9, 12, 13, 16, 17, 18, 19, 22, 25]
  | 2 => [25, 26, 27]
  | 3 => [27, 28, 30, 33, 34, 37, 38, 40, 41, 42, 45, 46, 48, 49, 52, 55]
  | 4 => [55, 56, 57]
  | 5 => [57, 58, 61, 62, 63, 64, 65]
  | 6 => [65, 66, 67, 70, 73, 74, 77, 78, 79, 81, 84, 85, 86, 89, 92]
  | 7 => [92, 94]
  | 8 => [94, 95, 96, 98, 101, 104]
  | 9 => [104, 105, 106, 107, 110, 112, 113, 114, 115, 116, 117, 118, 119, 122, 123, 124, 126, 128, 130, 133, 134, 135, 137, 140, 143]
  | 10 => [143, 145, 147, 150, 151, 154, 156, 158, 159]
  | 11 => [159, 160, 163, 164, 165, 166, 167, 170, 171, 172, 173]
  | 12 => [173, 176, 179]
  | 13 => [179, 182]
  | 14 => [182, 183]
  | _ => [183]
def zB_172 : Nat → List Instr
  | 0 => [.aload 0, .iload 1, .invokevirtual 153, .ifCond .ne 1, .sipush (-1), .ireturn]
  | 1 => [.iload 2, .sipush 0, .sipush 1, .invokestatic 150, .ifCond .ne 2, .sipush (-2), .ireturn]
  | 2 => [.iload 2, .ifCond .ne 3, .aload 0, .invokevirtual 167, .goto 4]
  | 3 => [.aload 0, .invokevirtual 171]
  | 4 => [.aload 0, .getfield 780, .iload 1, .iaload, .ireturn]
  | _ => []
def zP_172 : Nat → List Nat
  | 0 => [0, 1, 2, 5, 8, 9, 10]
  | 1 => [10, 11, 12, 13, 16, 19, 21, 22]
  | 2 => [22, 23, 26, 27, 30, 33]
  | 3 => [33, 34, 37]
  | 4 => [37, 38, 41, 42, 43, 44]
  | _ => [44]
def zB_173 : Nat → List Instr
  | 0 => [.aload 0, .getfield 783, .iload 1, .iaload, .sipush (-9), .if_icmp .eq 1, .aload 0, .getfield 783, .iload 1, .iaload, .iload 2, .if_icmp .eq 1, .aload 0, .sipush 2, .invokevirtual 148, .ireturn]
  | 1 => [.aload 0, .getfield 783, .iload 1, .iaload, .sipush (-9), .if_icmp .ne 2, .aload 0, .sipush 1, .invokevirtual 148, .ireturn]
  | 2 => [.iload 4, .ifCond .ge 3, .aload 0, .sipush 4, .invokevirtual 148, .ireturn]
  | 3 => [.iload 3, .ifCond .lt 4, .iload 3, .aload 0, .getfield 784, .iload 1, .iaload, .if_icmp .gt 4, .iload 4, .aload 0, .getfield 784, .iload 1, .iaload, .iload 3, .isub, .if_icmp .le 5]
  | 4 => [.aload 0, .sipush 3, .invokevirtual 148, .ireturn]
  | 5 => [.sipush 0, .ireturn]
  | _ => []
def zP_173 : Nat → List Nat
  | 0 => [0, 1, 4, 5, 6, 8, 11, 12, 15, 16, 17, 18, 21, 22, 23, 26, 27]
  | 1 => [27, 28, 31, 32, 33, 35, 38, 39, 40, 43, 44]
  | 2 => [44, 46, 49, 50, 51, 54, 55]
  | 3 => [55, 56, 59, 60, 61, 64, 65, 66, 69, 71, 72, 75, 76, 77, 78, 79, 82]
  | 4 => [82, 83, 84, 87, 88]
  | 5 => [88, 89, 90]
  | _ => [90]
def zB_174 : Nat → List Instr
  | 0 => [.iload 0, .sipush 0, .sipush 3, .invokestatic 150, .ireturn]
  | _ => []
def zP_174 : Nat → List Nat
  | 0 => [0, 1, 2, 3, 6, 7]
  | _ => [7]
def zB_175 : Nat → List Instr
  | 0 => [.iload 0, .sipush 0, .sipush 2, .invokestatic 150, .ireturn]
  | _ => []
def zP_175 : Nat → List Nat
  | 0 => [0, 1, 2, 3, 6, 7]
  | _ => [7]
def zB_176 : Nat → List Instr
  | 0 => [.sipush 0, .istore 3, .sipush 0, .istore 4]
  | 1 => [.iload 4, .aload 0, .getfield 774, .if_icmp .ge 6, .aload 0, .getfield 785, .sipush 60, .iload 1, .imul, .iload 2, .iadd, .iload 4, .iadd, .iaload, .istore 5, .iload 5, .sipush (-1), .aload 0, .getfield 770, .sipush 1, .isub, .invokestatic 150, .ifCond .eq 2, .iload 5, .ifCond .lt 3, .iload 3, .iload 5, .ishr, .sipush 1, .iand, .sipush 1, .if_icmp .ne 3]
  | 2 => [.sipush 0, .ireturn]
  | 3 => [.aload 0, .getfield 786, .iload 4, .iload 5, .iastore, .iload 3, .iload 5, .ifCond .ge 4, .sipush 0, .goto 5]
  | 4 => [.sipush 1, .iload 5, .ishl]
  | 5 => [.ior, .istore 3, .iinc 4 1, .goto 1]
  | 6 => [.sipush 1, .ireturn]
  | _ => []
def zP_176 : Nat → List Nat
  | 0 => [0, 1, 2, 3, 5]
  | 1 => [5, 7, 8, 11, 14, 15, 18, 20, 21, 22, 23, 24, 26, 27, 28, 30, 32, 33, 34, 37, 38, 39, 42, 45, 47, 50, 51, 53, 54, 55, 56, 57, 60]
  | 2 => [60, 61, 62]
  | 3 => [62, 63, 66, 68, 70, 71, 72, 74, 77, 78, 81]
  | 4 => [81, 82, 84, 85]
  | 5 => [85, 86, 87, 90, 93]
  | 6 => [93, 94, 95]
  | _ => [95]
def zB_177 : Nat → List Instr
  | 0 => [.sipush 0, .istore 1]
  | 1 => [.iload 1, .aload 0, .getfield 774, .if_icmp .ge 3, .aload 0, .getfield 786, .iload 1, .iaload, .ifCond .lt 2, .aload 0, .iload 1, .aload 0, .getfield 786, .iload 1, .iaload, .invokevirtual 159, .ifCond .ne 2, .sipush 0, .ireturn]
  | 2 => [.iinc 1 1, .goto 1]
  | 3 => [.sipush 1, .ireturn]
  | _ => []
def zP_177 : Nat → List Nat
  | 0 => [0, 1, 2]
  | 1 => [2, 3, 4, 7, 10, 11, 14, 15, 16, 19, 20, 21, 22, 25, 26, 27, 30, 33, 34, 35]
  | 2 => [35, 38, 41]
  | 3 => [41, 42, 43]
  | _ => [43]
def zB_178 : Nat → List Instr
  | 0 => [.sipush 0, .istore 2]
  | 1 => [.iload 2, .aload 0, .getfield 774, .if_icmp .ge 3, .aload 0, .getfield 786, .iload 2, .iaload, .iload 1, .if_icmp .ne 2, .iload 2, .ireturn]
  | 2 => [.iinc 2 1, .goto 1]
  | 3 => [.sipush (-9), .ireturn]
  | _ => []
def zP_178 : Nat → List Nat
  | 0 => [0, 1, 2]
  | 1 => [2, 3, 4, 7, 10, 11, 14, 15, 16, 17, 20, 21, 22]
  | 2 => [22, 25, 28]
  | 3 => [28, 30, 31]
  | _ => [31]
def zB_179 : Nat → List Instr
  | 0 => [.aload 0, .iload 1, .iload 2, .invokevirtual 159, .ifCond .eq 1, .aload 0, .getfield 786, .iload 1, .iaload, .ifCond .lt 2, .aload 0, .getfield 776, .sipush 10, .iload 1, .imul, .aload 0, .getfield 786, .iload 1, .iaload, .iadd, .iaload, .aload 0, .getfield 776, .sipush 10, .iload 1, .imul, .iload 2, .iadd, .iaload, .if_icmp .lt 2]
  | 1 => [.sipush 0, .ireturn]
  | 2 => [.aload 0, .iload 2, .invokevirtual 178, .istore 3, .iload 3, .sipush (-9), .if_icmp .eq 3, .aload 0, .iload 1, .iload 3, .invokevirtual 169, .ifCond .eq 4]
  | 3 => [.sipush 1, .goto 5]
  | 4 => [.sipush 0]
  | 5 => [.ireturn]
  | _ => []
def zP_179 : Nat → List Nat
  | 0 => [0, 1, 2, 3, 6, 9, 10, 13, 14, 15, 18, 19, 22, 24, 25, 26, 27, 30, 31, 32, 33, 34, 35, 38, 40, 41, 42, 43, 44, 45, 48]
  | 1 => [48, 49, 50]
  | 2 => [50, 51, 52, 55, 56, 57, 59, 62, 63, 64, 65, 68, 71]
  | 3 => [71, 72, 75]
  | 4 => [75, 76]
  | 5 => [76, 77]
  | _ => [77]
def zB_180 : Nat → List Instr
  | 0 => [.sipush 0, .istore 2, .sipush 0, .istore 3]
  | 1 => [.iload 3, .aload 0, .getfield 774, .if_icmp .ge 6, .sipush 0, .istore 4]
  | 2 => [.iload 4, .aload 0, .getfield 770, .if_icmp .ge 5, .aload 0, .iload 3, .iload 4, .invokevirtual 179, .ifCond .eq 4, .iload 2, .iload 1, .if_icmp .ne 3, .sipush 10, .iload 3, .imul, .iload 4, .iadd, .ireturn]
  | 3 => [.iinc 2 1]
  | 4 => [.iinc 4 1, .goto 2]
  | 5 => [.iinc 3 1, .goto 1]
  | 6 => [.sipush (-1), .iload 2, .isub, .ireturn]
  | _ => []
def zP_180 : Nat → List Nat
  | 0 => [0, 1, 2, 3, 4]
  | 1 => [4, 5, 6, 9, 12, 13, 15]
  | 2 => [15, 17, 18, 21, 24, 25, 26, 28, 31, 34, 35, 36, 39, 41, 42, 43, 45, 46, 47]
  | 3 => [47, 50]
  | 4 => [50, 53, 56]
  | 5 => [56, 59, 62]
  | 6 => [62, 63, 64, 65, 66]
  | _ => [66]
def zB_181 : Nat → List Instr
  | 0 => [.iload 2, .invokestatic 175, .ifCond .ne 1, .sipush (-2), .ireturn]
  | 1 => [.aload 0, .iload 1, .iload 2, .iload 3, .aload 0, .getfield 774, .invokevirtual 173, .istore 4, .iload 4, .ifCond .eq 2, .iload 4, .ireturn]
  | 2 => [.aload 0, .iload 1, .iload 3, .invokevirtual 176, .ifCond .eq 3, .aload 0, .invokevirtual 177, .ifCond .eq 3, .sipush 0, .goto 4]
  | 3 => [.sipush (-2)]
  | 4 => [.ireturn]
  | _ => []
def zP_181 : Nat → List Nat
  | 0 => [0, 1, 4, 7, 9, 10]
  | 1 => [10, 11, 12, 13, 14, 15, 18, 21, 23, 25, 28, 30, 31]
  | 2 => [31, 32, 33, 34, 37, 40, 41, 44, 47, 48, 51]
  | 3 => [51, 53]
  | 4 => [53, 54]
  | _ => [54]
def zB_182 : Nat → List Instr
  | 0 => [.aload 0, .sipush 0, .putfield 768, .iload 1, .invokestatic 174, .ifCond .ne 1, .sipush (-1), .ireturn]
  | 1 => [.aload 0, .iload 1, .iload 2, .iload 3, .invokevirtual 181, .istore 4, .iload 4, .ifCond .eq 2, .iload 4, .goto 3]
  | 2 => [.sipush (-1), .aload 0, .sipush (-1), .invokevirtual 180, .isub]
  | 3 => [.ireturn]
  | _ => []
def zP_182 : Nat → List Nat
  | 0 => [0, 1, 2, 5, 6, 9, 12, 13, 14]
  | 1 => [14, 15, 16, 17, 18, 21, 23, 25, 28, 30, 33]
  | 2 => [33, 34, 35, 36, 39, 40]
  | 3 => [40, 41]
  | _ => [41]
def zB_183 : Nat → List Instr
  | 0 => [.aload 0, .sipush 0, .putfield 768, .iload 1, .invokestatic 174, .ifCond .eq 1, .iload 4, .ifCond .ge 2]
  | 1 => [.sipush (-1), .ireturn]
  | 2 => [.aload 0, .iload 1, .iload 2, .iload 3, .invokevirtual 181, .istore 5, .iload 5, .ifCond .eq 3, .iload 5, .ireturn]
  | 3 => [.aload 0, .iload 4, .invokevirtual 180, .istore 6, .iload 6, .ifCond .ge 4, .sipush (-1), .goto 5]
  | 4 => [.iload 6]
  | 5 => [.ireturn]
  | _ => []
def zP_183 : Nat → List Nat
  | 0 => [0, 1, 2, 5, 6, 9, 12, 14, 17]
  | 1 => [17, 18, 19]
  | 2 => [19, 20, 21, 22, 23, 26, 28, 30, 33, 35, 36]
  | 3 => [36, 37, 39, 42, 44, 46, 49, 50, 53]
  | 4 => [53, 55]
  | 5 => [55, 56]
  | _ => [56]
def zB_184 : Nat → List Instr
  | 0 => [.iload 1, .ifCond .lt 1, .iload 1, .aload 0, .getfield 787, .if_icmp .ge 1, .sipush 1, .goto 2]
  | 1 => [.sipush 0]
  | 2 => [.ireturn]
  | _ => []
def zP_184 : Nat → List Nat
  | 0 => [0, 1, 4, 5, 6, 9, 12, 13, 16]
  | 1 => [16, 17]
  | 2 => [17, 18]
  | _ => [18]
def zB_185 : Nat → List Instr
  | 0 => [.sipush 0, .istore 5]
  | 1 => [.iload 5, .aload 0, .getfield 787, .if_icmp .ge 4, .aload 0, .getfield 788, .iload 5, .iaload, .iload 1, .if_icmp .eq 2, .aload 0, .getfield 789, .iload 5, .iaload, .iload 2, .if_icmp .ne 3]
  | 2 => [.aload 0, .getfield 790, .iload 5, .iaload, .iload 4, .if_icmp .gt 3, .iload 3, .aload 0, .getfield 791, .iload 5, .iaload, .if_icmp .gt 3, .sipush 1, .ireturn]
  | 3 => [.iinc 5 1, .goto 1]
  | 4 => [.sipush 0, .ireturn]
  | _ => []
def zP_185 : Nat → List Nat
  | 0 => [0, 1, 3]
  | 1 => [3, 5, 6, 9, 12, 13, 16, 18, 19, 20, 23, 24, 27, 29, 30, 31, 34]
  | 2 => [34, 35, 38, 40, 41, 43, 46, 47, 48, 51, 53, 54, 57, 58, 59]
  | 3 => [59, 62, 65]
  | 4 => [65, 66, 67]
  | _ => [67]
def zB_186 : Nat → List Instr
  | 0 => [.aload 0, .iload 1, .invokevirtual 153, .ifCond .eq 1, .aload 0, .iload 2, .invokevirtual 152, .ifCond .ne 2]
  | 1 => [.sipush (-1), .ireturn]
  | 2 => [.iload 3, .invokestatic 151, .ifCond .eq 3, .iload 4, .invokestatic 151, .ifCond .eq 3, .iload 3, .iload 4, .if_icmp .le 4]
  | 3 => [.sipush (-2), .ireturn]
  | 4 => [.aload 0, .iload 1, .iload 2, .invokevirtual 159, .ifCond .eq 5, .aload 0, .iload 1, .iload 2, .iload 3, .iload 4, .invokevirtual 185, .ifCond .eq 6]
  | 5 => [.sipush (-3), .ireturn]
  | 6 => [.aload 0, .getfield 787, .sipush 40, .if_icmp .ne 7, .sipush (-4), .ireturn]
  | 7 => [.aload 0, .getfield 788, .aload 0, .getfield 787, .iload 1, .iastore, .aload 0, .getfield 789, .aload 0, .getfield 787, .iload 2, .iastore, .aload 0, .getfield 790, .aload 0, .getfield 787, .iload 3, .iastore, .aload 0, .getfield 791, .aload 0, .getfield 787, .iload 4, .iastore, .aload 0, .getfield 792, .aload 0, .getfield 787, .sipush (-9), .iastore, .aload 0, .dup, .getfield 787, .sipush 1, .iadd, .putfield 787, .aload 0, .getfield 787, .sipush 1, .isub, .ireturn]
  | _ => []
def zP_186 : Nat → List Nat
  | 0 => [0, 1, 2, 5, 8, 9, 10, 13, 16]
  | 1 => [16, 17, 18]
  | 2 => [18, 19, 22, 25, 27, 30, 33, 34, 36, 39]
  | 3 => [39, 41, 42]
  | 4 => [42, 43, 44, 45, 48, 51, 52, 53, 54, 55, 57, 60, 63]
  | 5 => [63, 65, 66]
  | 6 => [66, 67, 70, 72, 75, 77, 78]
  | 7 => [78, 79, 82, 83, 86, 87, 88, 89, 92, 93, 96, 97, 98, 99, 102, 103, 106, 107, 108, 109, 112, 113, 116, 118, 119, 120, 123, 124, 127, 129, 130, 131, 132, 135, 136, 137, 140, 141, 144, 145, 146, 147]
  | _ => [147]
def zB_187 : Nat → List Instr
  | 0 => [.aload 0, .iload 1, .invokevirtual 184, .ifCond .ne 1, .sipush (-1), .ireturn]
  | 1 => [.iload 2, .aload 0, .getfield 790, .iload 1, .iaload, .aload 0, .getfield 791, .iload 1, .iaload, .invokestatic 150, .ifCond .ne 2, .sipush (-2), .ireturn]
  | 2 => [.aload 0, .getfield 791, .iload 1, .iaload, .istore 3, .aload 0, .getfield 791, .iload 1, .iload 2, .iastore, .iload 3, .ireturn]
  | _ => []
def zP_187 : Nat → List Nat
  | 0 => [0, 1, 2, 5, 8, 9, 10]
  | 1 => [10, 11, 12, 15, 16, 17, 18, 21, 22, 23, 26, 29, 31, 32]
  | 2 => [32, 33, 36, 37, 38, 39, 40, 43, 44, 45, 46, 47, 48]
  | _ => [48]
def zB_188 : Nat → List Instr
  | 0 => [.aload 0, .iload 1, .invokevirtual 184, .ifCond .ne 1, .sipush (-1), .ireturn]
  | 1 => [.iload 2, .invokestatic 151, .ifCond .ne 2, .sipush (-2), .ireturn]
  | 2 => [.aload 0, .getfield 792, .iload 1, .iload 2, .iastore, .sipush 1, .ireturn]
  | _ => []
def zP_188 : Nat → List Nat
  | 0 => [0, 1, 2, 5, 8, 9, 10]
  | 1 => [10, 11, 14, 17, 19, 20]
  | 2 => [20, 21, 24, 25, 26, 27, 28, 29]
  | _ => [29]
def zB_189 : Nat → List Instr
  | 0 => [.sipush 0, .istore 2, .sipush 0, .istore 3]
  | 1 => [.iload 3, .aload 0, .getfield 813, .if_icmp .ge 4, .iload 2, .aload 0, .getfield 814, .iload 3, .iaload, .aload 0, .getfield 789, .iload 1, .iaload, .if_icmp .ne 2, .aload 0, .getfield 815, .iload 3, .iaload, .aload 0, .getfield 790, .iload 1, .iaload, .aload 0, .getfield 791, .iload 1, .iaload, .invokestatic 150, .ifCond .eq 2, .sipush 1, .goto 3]
  | 2 => [.sipush 0]
  | 3 => [.iadd, .istore 2, .iinc 3 1, .goto 1]
  | 4 => [.iload 2, .ireturn]
  | _ => []
def zP_189 : Nat → List Nat
  | 0 => [0, 1, 2, 3, 4]
  | 1 => [4, 5, 6, 9, 12, 13, 14, 17, 18, 19, 20, 23, 24, 25, 28, 29, 32, 33, 34, 35, 38, 39, 40, 41, 44, 45, 46, 49, 52, 53, 56]
  | 2 => [56, 57]
  | 3 => [57, 58, 59, 62, 65]
  | 4 => [65, 66, 67]
  | _ => [67]
def zB_190 : Nat → List Instr
  | 0 => [.sipush 0, .istore 2, .iload 2, .aload 0, .getfield 829, .sipush 0, .iaload, .sipush (-9), .if_icmp .eq 1, .aload 0, .iload 1, .invokevirtual 189, .aload 0, .getfield 829, .sipush 0, .iaload, .if_icmp .le 1, .sipush 1, .goto 2]
  | 1 => [.sipush 0]
  | 2 => [.ior, .istore 2, .iload 2, .aload 0, .getfield 829, .sipush 1, .iaload, .sipush (-9), .if_icmp .eq 4, .aload 0, .getfield 792, .iload 1, .iaload, .sipush (-9), .if_icmp .eq 3, .aload 0, .getfield 791, .iload 1, .iaload, .aload 0, .getfield 792, .iload 1, .iaload, .isub, .aload 0, .getfield 829, .sipush 1, .iaload, .if_icmp .ge 4]
  | 3 => [.sipush 2, .goto 5]
  | 4 => [.sipush 0]
  | 5 => [.ior, .istore 2, .iload 2, .aload 0, .getfield 829, .sipush 2, .iaload, .sipush (-9), .if_icmp .eq 6, .aload 0, .getfield 775, .aload 0, .getfield 788, .iload 1, .iaload, .iaload, .aload 0, .getfield 829, .sipush 2, .iaload, .if_icmp .ge 6, .sipush 4, .goto 7]
  | 6 => [.sipush 0]
  | 7 => [.ior, .istore 2, .iload 2, .aload 0, .getfield 829, .sipush 3, .iaload, .sipush (-9), .if_icmp .eq 8, .aload 0, .getfield 791, .iload 1, .iaload, .aload 0, .getfield 790, .iload 1, .iaload, .isub, .sipush 1, .iadd, .aload 0, .getfield 829, .sipush 3, .iaload, .if_icmp .le 8, .sipush 8, .goto 9]
  | 8 => [.sipush 0]
  | 9 => [.ior, .istore 2, .iload 2, .ireturn]
  | _ => []
def zP_190 : Nat → List Nat
  | 0 => [0, 1, 2, 3, 4, 7, 8, 9, 11, 14, 15, 16, 19, 20, 23, 24, 25, 28, 29, 32]
  | 1 => [32, 33]
  | 2 => [33, 34, 35, 36, 37, 40, 41, 42, 44, 47, 48, 51, 52, 53, 55, 58, 59, 62, 63, 64, 65, 68, 69, 70, 71, 72, 75, 76, 77, 80]
  | 3 => [80, 81, 84]
  | 4 => [84, 85]
  | 5 => [85, 86, 87, 88, 89, 92, 93, 94, 96, 99, 100, 103, 104, 107, 108, 109, 110, 111, 114, 115, 116, 119, 120, 123]
  | 6 => [123, 124]
  | 7 => [124, 125, 126, 127, 128, 131, 132, 133, 135, 138, 139, 142, 143, 144, 145, 148, 149, 150, 151, 152, 153, 154, 157, 158, 159, 162, 164, 167]
  | 8 => [167, 168]
  | 9 => [168, 169, 170, 171, 172]
  | _ => [172]
def zB_191 : Nat → List Instr
  | 0 => [.aload 0, .iload 1, .invokevirtual 184, .ifCond .ne 1, .sipush (-1), .ireturn]
  | 1 => [.iload 2, .tableswitch 8 0 5 #[2, 3, 4, 5, 6, 7]]
  | 2 => [.aload 0, .getfield 788, .iload 1, .iaload, .ireturn]
  | 3 => [.aload 0, .getfield 789, .iload 1, .iaload, .ireturn]
  | 4 => [.aload 0, .getfield 790, .iload 1, .iaload, .ireturn]
  | 5 => [.aload 0, .getfield 791, .iload 1, .iaload, .ireturn]
  | 6 => [.aload 0, .getfield 792, .iload 1, .iaload, .ireturn]
  | 7 => [.aload 0, .iload 1, .invokevirtual 190, .ireturn]
  | 8 => [.sipush (-2), .ireturn]
  | _ => []
def zP_191 : Nat → List Nat
  | 0 => [0, 1, 2, 5, 8, 9, 10]
  | 1 => [10, 11, 48]
  | 2 => [48, 49, 52, 53, 54, 55]
  | 3 => [55, 56, 59, 60, 61, 62]
  | 4 => [62, 63, 66, 67, 68, 69]
  | 5 => [69, 70, 73, 74, 75, 76]
  | 6 => [76, 77, 80, 81, 82, 83]
  | 7 => [83, 84, 85, 88, 89]
  | 8 => [89, 91, 92]
  | _ => [92]
def zB_192 : Nat → List Instr
  | 0 => [.sipush 0, .istore 4]
  | 1 => [.iload 4, .aload 0, .getfield 787, .if_icmp .ge 5, .iload 1, .ifCond .eq 2, .aload 0, .getfield 788, .iload 4, .iaload, .goto 3]
  | 2 => [.aload 0, .getfield 789, .iload 4, .iaload]
  | 3 => [.iload 2, .if_icmp .ne 4, .iload 3, .aload 0, .getfield 790, .iload 4, .iaload, .aload 0, .getfield 791, .iload 4, .iaload, .invokestatic 150, .ifCond .eq 4, .iload 4, .ireturn]
  | 4 => [.iinc 4 1, .goto 1]
  | 5 => [.sipush (-9), .ireturn]
  | _ => []
def zP_192 : Nat → List Nat
  | 0 => [0, 1, 3]
  | 1 => [3, 5, 6, 9, 12, 13, 16, 17, 20, 22, 23, 26]
  | 2 => [26, 27, 30, 32, 33]
  | 3 => [33, 34, 37, 38, 39, 42, 44, 45, 46, 49, 51, 52, 55, 58, 60, 61]
  | 4 => [61, 64, 67]
  | 5 => [67, 69, 70]
  | _ => [70]
def zB_193 : Nat → List Instr
  | 0 => [.iload 1, .sipush 0, .sipush 1, .invokestatic 150, .ifCond .ne 1, .sipush (-2), .ireturn]
  | 1 => [.iload 1, .ifCond .ne 2, .aload 0, .iload 2, .invokevirtual 152, .ifCond .ne 4, .goto 3]
  | 2 => [.aload 0, .iload 2, .invokevirtual 153, .ifCond .ne 4]
  | 3 => [.sipush (-1), .ireturn]
  | 4 => [.iload 3, .invokestatic 151, .ifCond .eq 7, .aload 0, .iload 1, .sipush 1, .if_icmp .ne 5, .sipush 1, .goto 6]
  | 5 => [.sipush 0]
  | 6 => [.iload 2, .iload 3, .invokevirtual 192, .goto 8]
  | 7 => [.sipush (-2)]
  | 8 => [.ireturn]
  | _ => []
def zP_193 : Nat → List Nat
  | 0 => [0, 1, 2, 3, 6, 9, 11, 12]
  | 1 => [12, 13, 16, 17, 18, 21, 24, 27]
  | 2 => [27, 28, 29, 32, 35]
  | 3 => [35, 36, 37]
  | 4 => [37, 38, 41, 44, 45, 46, 47, 50, 51, 54]
  | 5 => [54, 55]
  | 6 => [55, 56, 57, 60, 63]
  | 7 => [63, 65]
  | 8 => [65, 66]
  | _ => [66]
def zB_194 : Nat → List Instr
  | 0 => [.aload 0, .iload 1, .invokevirtual 152, .ifCond .ne 1, .sipush (-1), .ireturn]
  | 1 => [.iload 2, .invokestatic 151, .ifCond .eq 2, .iload 3, .sipush 0, .sipush 65535, .invokestatic 150, .ifCond .ne 3]
  | 2 => [.sipush (-2), .ireturn]
  | 3 => [.sipush 0, .istore 4]
  | 4 => [.iload 4, .aload 0, .getfield 793, .if_icmp .ge 6, .aload 0, .getfield 794, .iload 4, .iaload, .iload 1, .if_icmp .ne 5, .aload 0, .getfield 795, .iload 4, .iaload, .iload 2, .if_icmp .ne 5, .sipush (-3), .ireturn]
  | 5 => [.iinc 4 1, .goto 4]
  | 6 => [.aload 0, .getfield 793, .sipush 40, .if_icmp .ne 7, .sipush (-4), .ireturn]
  | 7 => [.aload 0, .getfield 794, .aload 0, .getfield 793, .iload 1, .iastore, .aload 0, .getfield 795, .aload 0, .getfield 793, .iload 2, .iastore, .aload 0, .getfield 796, .aload 0, .getfield 793, .iload 3, .iastore, .aload 0, .dup, .getfield 793, .sipush 1, .iadd, .putfield 793, .aload 0, .getfield 793, .sipush 1, .isub, .ireturn]
  | _ => []
def zP_194 : Nat → List Nat
  | 0 => [0, 1, 2, 5, 8, 9, 10]
  | 1 => [10, 11, 14, 17, 18, 19, 22, 25, 28]
  | 2 => [28, 30, 31]
  | 3 => [31, 32, 34]
  | 4 => [34, 36, 37, 40, 43, 44, 47, 49, 50, 51, 54, 55, 58, 60, 61, 62, 65, 67, 68]
  | 5 => [68, 71, 74]
  | 6 => [74, 75, 78, 80, 83, 85, 86]
  | 7 => [86, 87, 90, 91, 94, 95, 96, 97, 100, 101, 104, 105, 106, 107, 110, 111, 114, 115, 116, 117, 118, 121, 122, 123, 126, 127, 130, 131, 132, 133]
  | _ => [133]
def zB_195 : Nat → List Instr
  | 0 => [.aload 0, .sipush (-9), .putfield 798, .sipush 0, .istore 3]
  | 1 => [.iload 3, .aload 0, .getfield 793, .if_icmp .ge 6, .aload 0, .getfield 794, .iload 3, .iaload, .iload 1, .if_icmp .ne 2, .aload 0, .getfield 796, .iload 3, .iaload, .iload 2, .ishr, .sipush 1, .iand, .sipush 1, .if_icmp .ne 2, .sipush 1, .goto 3]
  | 2 => [.sipush 0]
  | 3 => [.istore 4, .iload 4, .ifCond .eq 5, .aload 0, .getfield 798, .sipush (-9), .if_icmp .eq 4, .aload 0, .getfield 795, .iload 3, .iaload, .aload 0, .getfield 798, .if_icmp .ge 5]
  | 4 => [.aload 0, .aload 0, .getfield 795, .iload 3, .iaload, .putfield 798]
  | 5 => [.iinc 3 1, .goto 1]
  | 6 => [.aload 0, .getfield 798, .sipush (-9), .if_icmp .ne 7, .sipush 0, .ireturn]
  | 7 => [.aload 0, .sipush 0, .putfield 797, .sipush 0, .istore 3]
  | 8 => [.iload 3, .aload 0, .getfield 793, .if_icmp .ge 10, .aload 0, .getfield 794, .iload 3, .iaload, .iload 1, .if_icmp .ne 9, .aload 0, .getfield 795, .iload 3, .iaload, .aload 0, .getfield 798, .if_icmp .ge 9, .aload 0, .getfield 795, .iload 3, .iaload, .sipush 1, .iadd, .aload 0, .getfield 797, .if_icmp .le 9, .aload 0, .aload 0, .getfield 795, .iload 3, .iaload, .sipush 1, .iadd, .putfield 797]
  | 9 => [.iinc 3 1, .goto 8]
  | 10 => [.sipush 1, .ireturn]
  | _ => []
def zP_195 : Nat → List Nat
  | 0 => [0, 1, 3, 6, 7, 8]
  | 1 => [8, 9, 10, 13, 16, 17, 20, 21, 22, 23, 26, 27, 30, 31, 32, 33, 34, 35, 36, 37, 40, 41, 44]
  | 2 => [44, 45]
  | 3 => [45, 47, 49, 52, 53, 56, 58, 61, 62, 65, 66, 67, 68, 71, 74]
  | 4 => [74, 75, 76, 79, 80, 81, 84]
  | 5 => [84, 87, 90]
  | 6 => [90, 91, 94, 96, 99, 100, 101]
  | 7 => [101, 102, 103, 106, 107, 108]
  | 8 => [108, 109, 110, 113, 116, 117, 120, 121, 122, 123, 126, 127, 130, 131, 132, 133, 136, 139, 140, 143, 144, 145, 146, 147, 148, 151, 154, 155, 156, 159, 160, 161, 162, 163, 166]
  | 9 => [166, 169, 172]
  | 10 => [172, 173, 174]
  | _ => [174]
def zB_196 : Nat → List Instr
  | 0 => [.aload 0, .iload 1, .invokevirtual 152, .ifCond .eq 1, .iload 2, .sipush 0, .sipush 15, .invokestatic 150, .ifCond .ne 2]
  | 1 => [.sipush (-1), .ireturn]
  | 2 => [.iload 3, .sipush 0, .sipush 1, .invokestatic 150, .ifCond .ne 3, .sipush (-2), .ireturn]
  | 3 => [.aload 0, .iload 1, .iload 2, .invokevirtual 195, .ifCond .ne 4, .sipush (-9), .goto 6]
  | 4 => [.iload 3, .ifCond .ne 5, .aload 0, .getfield 797, .goto 6]
  | 5 => [.aload 0, .getfield 798]
  | 6 => [.ireturn]
  | _ => []
def zP_196 : Nat → List Nat
  | 0 => [0, 1, 2, 5, 8, 9, 10, 12, 15, 18]
  | 1 => [18, 19, 20]
  | 2 => [20, 21, 22, 23, 26, 29, 31, 32]
  | 3 => [32, 33, 34, 35, 38, 41, 43, 46]
  | 4 => [46, 47, 50, 51, 54, 57]
  | 5 => [57, 58, 61]
  | 6 => [61, 62]
  | _ => [62]
def zB_197 : Nat → List Instr
  | 0 => [.aload 0, .iload 1, .invokevirtual 152, .ifCond .eq 1, .iload 2, .sipush 0, .sipush 15, .invokestatic 150, .ifCond .ne 2]
  | 1 => [.sipush (-1), .ireturn]
  | 2 => [.aload 0, .iload 1, .iload 2, .invokevirtual 195, .ifCond .ne 3, .sipush (-9), .ireturn]
  | 3 => [.aload 0, .sipush 0, .iload 1, .aload 0, .getfield 797, .invokevirtual 192, .istore 3, .iload 3, .sipush (-9), .if_icmp .eq 4, .aload 0, .getfield 791, .iload 3, .iaload, .aload 0, .getfield 798, .if_icmp .lt 4, .iload 3, .goto 5]
  | 4 => [.sipush (-9)]
  | 5 => [.ireturn]
  | _ => []
def zP_197 : Nat → List Nat
  | 0 => [0, 1, 2, 5, 8, 9, 10, 12, 15, 18]
  | 1 => [18, 19, 20]
  | 2 => [20, 21, 22, 23, 26, 29, 31, 32]
  | 3 => [32, 33, 34, 35, 36, 39, 42, 43, 44, 46, 49, 50, 53, 54, 55, 56, 59, 62, 63, 66]
  | 4 => [66, 68]
  | 5 => [68, 69]
  | _ => [69]
def zB_198 : Nat → List Instr
  | 0 => [.aload 0, .iload 1, .invokevirtual 152, .ifCond .ne 1, .sipush (-1), .ireturn]
  | 1 => [.sipush 0, .istore 2, .sipush 0, .istore 3]
  | 2 => [.iload 3, .aload 0, .getfield 793, .if_icmp .ge 9, .sipush 0, .istore 4, .sipush 0, .istore 5]
  | 3 => [.iload 5, .aload 0, .getfield 793, .if_icmp .ge 6, .iload 4, .aload 0, .getfield 794, .iload 5, .iaload, .iload 1, .if_icmp .ne 4, .aload 0, .getfield 795, .iload 5, .iaload, .aload 0, .getfield 795, .iload 3, .iaload, .if_icmp .ge 4, .aload 0, .getfield 796, .iload 5, .iaload, .goto 5]
  | 4 => [.sipush 0]
  | 5 => [.ior, .istore 4, .iinc 5 1, .goto 3]
  | 6 => [.iload 2, .aload 0, .getfield 794, .iload 3, .iaload, .iload 1, .if_icmp .ne 7, .iload 4, .aload 0, .getfield 796, .iload 3, .iaload, .sipush (-1), .ixor, .iand, .ifCond .eq 7, .sipush 1, .goto 8]
  | 7 => [.sipush 0]
  | 8 => [.iadd, .istore 2, .iinc 3 1, .goto 2]
  | 9 => [.iload 2, .ireturn]
  | _ => []
def zP_198 : Nat → List Nat
  | 0 => [0, 1, 2, 5, 8, 9, 10]
  | 1 => [10, 11, 12, 13, 14]
  | 2 => [14, 15, 16, 19, 22, 23, 25, 26, 28]
  | 3 => [28, 30, 31, 34, 37, 39, 40, 43, 45, 46, 47, 50, 51, 54, 56, 57, 58, 61, 62, 63, 66, 67, 70, 72, 73, 76]
  | 4 => [76, 77]
  | 5 => [77, 78, 80, 83, 86]
  | 6 => [86, 87, 88, 91, 92, 93, 94, 97, 99, 100, 103, 104, 105, 106, 107, 108, 111, 112, 115]
  | 7 => [115, 116]
  | 8 => [116, 117, 118, 121, 124]
  | 9 => [124, 125, 126]
  | _ => [126]
def zB_199 : Nat → List Instr
  | 0 => [.sipush 0, .istore 1, .sipush 0, .istore 2]
  | 1 => [.iload 2, .sipush 10, .if_icmp .ge 2, .iload 1, .iload 0, .iload 2, .ishr, .sipush 1, .iand, .iadd, .istore 1, .iinc 2 1, .goto 1]
  | 2 => [.iload 1, .ireturn]
  | _ => []
def zP_199 : Nat → List Nat
  | 0 => [0, 1, 2, 3, 4]
  | 1 => [4, 5, 7, 10, 11, 12, 13, 14, 15, 16, 17, 18, 21, 24]
  | 2 => [24, 25, 26]
  | _ => [26]
def zB_200 : Nat → List Instr
  | 0 => [.sipush 0, .istore 3]
  | 1 => [.iload 3, .sipush 1, .aload 0, .getfield 774, .ishl, .if_icmp .ge 8, .aload 0, .getfield 802, .iload 3, .iload 3, .ifCond .ne 2, .sipush 0, .goto 3]
  | 2 => [.sipush (-9)]
  | 3 => [.iastore, .aload 0, .getfield 801, .iload 3, .sipush 0, .iastore, .sipush 0, .istore 4]
  | 4 => [.iload 4, .aload 0, .getfield 800, .if_icmp .ge 7, .aload 0, .getfield 801, .iload 3, .dup2, .iaload, .aload 0, .getfield 799, .iload 4, .iaload, .iload 3, .sipush (-1), .ixor, .iand, .ifCond .ne 5, .sipush 1, .goto 6]
  | 5 => [.sipush 0]
  | 6 => [.iadd, .iastore, .iinc 4 1, .goto 4]
  | 7 => [.iinc 3 1, .goto 1]
  | 8 => [.sipush 0, .istore 3]
  | 9 => [.aload 0, .getfield 802, .iload 1, .iaload, .aload 0, .getfield 800, .if_icmp .ge 26, .sipush 0, .istore 4]
  | 10 => [.iload 4, .sipush 1, .aload 0, .getfield 774, .ishl, .if_icmp .ge 11, .aload 0, .getfield 803, .iload 4, .sipush (-9), .iastore, .iinc 4 1, .goto 10]
  | 11 => [.sipush 0, .istore 4]
  | 12 => [.iload 4, .sipush 1, .aload 0, .getfield 774, .ishl, .if_icmp .ge 23, .aload 0, .getfield 802, .iload 4, .iaload, .sipush (-9), .if_icmp .ne 13, .goto 22]
  | 13 => [.iload 1, .iload 4, .sipush (-1), .ixor, .iand, .istore 5, .iload 5, .istore 6, .sipush 1, .istore 7]
  | 14 => [.iload 7, .ifCond .eq 22, .iload 2, .iload 6, .invokestatic 199, .isub, .istore 8, .iload 8, .ifCond .lt 19, .aload 0, .getfield 801, .iload 4, .iaload, .aload 0, .getfield 802, .iload 4, .iaload, .isub, .istore 9, .aload 0, .getfield 802, .iload 4, .iaload, .iload 9, .iload 8, .if_icmp .ge 15, .iload 9, .goto 16]
  | 15 => [.iload 8]
  | 16 => [.iadd, .istore 10, .aload 0, .getfield 803, .iload 4, .iload 6, .ior, .iload 10, .aload 0, .getfield 803, .iload 4, .iload 6, .ior, .iaload, .if_icmp .le 17, .iload 10, .goto 18]
  | 17 => [.aload 0, .getfield 803, .iload 4, .iload 6, .ior, .iaload]
  | 18 => [.iastore]
  | 19 => [.iload 6, .ifCond .le 20, .sipush 1, .goto 21]
  | 20 => [.sipush 0]
  | 21 => [.istore 7, .iload 6, .sipush 1, .isub, .iload 5, .iand, .istore 6, .goto 14]
  | 22 => [.iinc 4 1, .goto 12]
  | 23 => [.sipush 0, .istore 4]
  | 24 => [.iload 4, .sipush 1, .aload 0, .getfield 774, .ishl, .if_icmp .ge 25, .aload 0, .getfield 802, .iload 4, .aload 0, .getfield 803, .iload 4, .iaload, .iastore, .iinc 4 1, .goto 24]
  | 25 => [.iinc 3 1, .goto 9]
  | 26 => [.iload 3, .ireturn]
  | _ => []
def zP_200 : Nat → List Nat
  | 0 => [0, 1, 2]
  | 1 => [2, 3, 4, 5, 8, 9, 12, 13, 16, 17, 18, 21, 22, 25]
  | 2 => [25, 27]
  | 3 => [27, 28, 29, 32, 33, 34, 35, 36, 38]
  | 4 => [38, 40, 41, 44, 47, 48, 51, 52, 53, 54, 55, 58, 60, 61, 62, 63, 64, 65, 68, 69, 72]
  | 5 => [72, 73]
  | 6 => [73, 74, 75, 78, 81]
  | 7 => [81, 84, 87]
  | 8 => [87, 88, 89]
  | 9 => [89, 90, 93, 94, 95, 96, 99, 102, 103, 105]
  | 10 => [105, 107, 108, 109, 112, 113, 116, 117, 120, 122, 124, 125, 128, 131]
  | 11 => [131, 132, 134]
  | 12 => [134, 136, 137, 138, 141, 142, 145, 146, 149, 151, 152, 154, 157, 160]
  | 13 => [160, 161, 163, 164, 165, 166, 168, 170, 172, 173, 175]
  | 14 => [175, 177, 180, 181, 183, 186, 187, 189, 191, 194, 195, 198, 200, 201, 202, 205, 207, 208, 209, 211, 212, 215, 217, 218, 220, 222, 225, 227, 230]
  | 15 => [230, 232]
  | 16 => [232, 233, 235, 236, 239, 241, 243, 244, 246, 247, 250, 252, 254, 255, 256, 259, 261, 264]
  | 17 => [264, 265, 268, 270, 272, 273, 274]
  | 18 => [274, 275]
  | 19 => [275, 277, 280, 281, 284]
  | 20 => [284, 285]
  | 21 => [285, 287, 289, 290, 291, 293, 294, 296, 299]
  | 22 => [299, 302, 305]
  | 23 => [305, 306, 308]
  | 24 => [308, 310, 311, 312, 315, 316, 319, 320, 323, 325, 326, 329, 331, 332, 333, 336, 339]
  | 25 => [339, 342, 345]
  | 26 => [345, 346, 347]
  | _ => [347]
def zB_201 : Nat → List Instr
  | 0 => [.aload 0, .sipush 0, .putfield 768, .iload 3, .invokestatic 174, .ifCond .ne 1, .sipush (-1), .ireturn]
  | 1 => [.iload 4, .invokestatic 175, .ifCond .eq 2, .iload 1, .invokestatic 151, .ifCond .eq 2, .iload 2, .sipush 1, .sipush 9, .invokestatic 150, .ifCond .ne 3]
  | 2 => [.sipush (-2), .ireturn]
  | 3 => [.aload 0, .iload 3, .iload 4, .iload 5, .aload 0, .getfield 774, .invokevirtual 173, .istore 6, .iload 6, .ifCond .eq 4, .iload 6, .ireturn]
  | 4 => [.aload 0, .iload 3, .iload 5, .invokevirtual 176, .ifCond .ne 5, .sipush (-2), .ireturn]
  | 5 => [.sipush 0, .istore 7, .aload 0, .sipush 0, .putfield 800, .sipush 0, .istore 8]
  | 6 => [.iload 8, .aload 0, .getfield 774, .if_icmp .ge 16, .aload 0, .sipush 1, .iload 8, .iload 1, .invokevirtual 192, .istore 9, .iload 9, .sipush (-9), .if_icmp .ne 7, .sipush (-1), .goto 8]
  | 7 => [.aload 0, .getfield 789, .iload 9, .iaload]
  | 8 => [.istore 10, .iload 7, .iload 10, .ifCond .lt 9, .iload 10, .aload 0, .getfield 786, .iload 8, .iaload, .if_icmp .eq 9, .sipush 1, .iload 8, .ishl, .goto 10]
  | 9 => [.sipush 0]
  | 10 => [.ior, .istore 7, .aload 0, .getfield 786, .iload 8, .iaload, .ifCond .lt 15, .aload 0, .getfield 786, .iload 8, .iaload, .iload 10, .if_icmp .eq 15, .aload 0, .sipush 0, .aload 0, .getfield 786, .iload 8, .iaload, .iload 1, .invokevirtual 192, .istore 11, .aload 0, .getfield 799, .aload 0, .getfield 800, .iload 10, .ifCond .lt 11, .sipush 1, .iload 8, .ishl, .goto 12]
  | 11 => [.sipush 0]
  | 12 => [.iload 11, .sipush (-9), .if_icmp .ne 13, .sipush 0, .goto 14]
  | 13 => [.sipush 1, .aload 0, .getfield 788, .iload 11, .iaload, .ishl]
  | 14 => [.ior, .iastore, .aload 0, .dup, .getfield 800, .sipush 1, .iadd, .putfield 800]
  | 15 => [.iinc 8 1, .goto 6]
  | 16 => [.iload 7, .ifCond .ne 17, .aload 0, .getfield 800, .ifCond .ne 17, .sipush 0, .goto 18]
  | 17 => [.aload 0, .iload 7, .iload 2, .invokevirtual 200]
  | 18 => [.ireturn]
  | _ => []
def zP_201 : Nat → List Nat
  | 0 => [0, 1, 2, 5, 6, 9, 12, 13, 14]
  | 1 => [14, 16, 19, 22, 23, 26, 29, 30, 31, 33, 36, 39]
  | 2 => [39, 41, 42]
  | 3 => [42, 43, 44, 46, 48, 49, 52, 55, 57, 59, 62, 64, 65]
  | 4 => [65, 66, 67, 69, 72, 75, 77, 78]
  | 5 => [78, 79, 81, 82, 83, 86, 87, 89]
  | 6 => [89, 91, 92, 95, 98, 99, 100, 102, 103, 106, 108, 110, 112, 115, 116, 119]
  | 7 => [119, 120, 123, 125, 126]
  | 8 => [126, 128, 130, 132, 135, 137, 138, 141, 143, 144, 147, 148, 150, 151, 154]
  | 9 => [154, 155]
  | 10 => [155, 156, 158, 159, 162, 164, 165, 168, 169, 172, 174, 175, 177, 180, 181, 182, 183, 186, 188, 189, 190, 193, 195, 196, 199, 200, 203, 205, 208, 209, 211, 212, 215]
  | 11 => [215, 216]
  | 12 => [216, 218, 220, 223, 224, 227]
  | 13 => [227, 228, 229, 232, 234, 235, 236]
  | 14 => [236, 237, 238, 239, 240, 243, 244, 245, 248]
  | 15 => [248, 251, 254]
  | 16 => [254, 256, 259, 260, 263, 266, 267, 270]
  | 17 => [270, 271, 273, 274, 277]
  | 18 => [277, 278]
  | _ => [278]
def zB_202 : Nat → List Instr
  | 0 => [.iload 0, .sipush 1500, .sipush 2100, .invokestatic 150, .ireturn]
  | _ => []
def zP_202 : Nat → List Nat
  | 0 => [0, 1, 4, 7, 10, 11]
  | _ => [11]
def zB_203 : Nat → List Instr
  | 0 => [.aload 0, .iload 1, .invokevirtual 152, .ifCond .ne 1, .sipush (-1), .ireturn]
  | 1 => [.iload 2, .sipush 0, .sipush 99, .invokestatic 150, .ifCond .eq 2, .iload 3, .invokestatic 202, .ifCond .eq 2, .iload 4, .invokestatic 202, .ifCond .eq 2, .iload 3, .iload 4, .if_icmp .le 3]
  | 2 => [.sipush (-2), .ireturn]
  | 3 => [.aload 0, .getfield 804, .sipush 40, .if_icmp .ne 4, .sipush (-4), .ireturn]
  | 4 => [.aload 0, .getfield 805, .aload 0, .getfield 804, .iload 1, .iastore, .aload 0, .getfield 806, .aload 0, .getfield 804, .iload 2, .iastore, .aload 0, .getfield 807, .aload 0, .getfield 804, .iload 3, .iastore, .aload 0, .getfield 808, .aload 0, .getfield 804, .iload 4, .iastore, .aload 0, .dup, .getfield 804, .sipush 1, .iadd, .putfield 804, .aload 0, .getfield 804, .sipush 1, .isub, .ireturn]
  | _ => []
def zP_203 : Nat → List Nat
  | 0 => [0, 1, 2, 5, 8, 9, 10]
  | 1 => [10, 11, 12, 14, 17, 20, 21, 24, 27, 29, 32, 35, 36, 38, 41]
  | 2 => [41, 43, 44]
  | 3 => [44, 45, 48, 50, 53, 55, 56]
  | 4 => [56, 57, 60, 61, 64, 65, 66, 67, 70, 71, 74, 75, 76, 77, 80, 81, 84, 85, 86, 87, 90, 91, 94, 96, 97, 98, 99, 102, 103, 104, 107, 108, 111, 112, 113, 114]
  | _ => [114]
def zB_204 : Nat → List Instr
  | 0 => [.aload 0, .getfield 805, .iload 1, .iaload, .iload 2, .if_icmp .ne 1, .iload 3, .aload 0, .getfield 807, .iload 1, .iaload, .aload 0, .getfield 808, .iload 1, .iaload, .invokestatic 150, .ifCond .eq 1, .sipush 1, .goto 2]
  | 1 => [.sipush 0]
  | 2 => [.ireturn]
  | _ => []
def zP_204 : Nat → List Nat
  | 0 => [0, 1, 4, 5, 6, 7, 10, 11, 12, 15, 16, 17, 18, 21, 22, 23, 26, 29, 30, 33]
  | 1 => [33, 34]
  | 2 => [34, 35]
  | _ => [35]
def zB_205 : Nat → List Instr
  | 0 => [.sipush 0, .istore 3]
  | 1 => [.iload 3, .aload 0, .getfield 804, .if_icmp .ge 3, .aload 0, .iload 3, .iload 1, .iload 2, .invokevirtual 204, .ifCond .eq 2, .sipush 1, .ireturn]
  | 2 => [.iinc 3 1, .goto 1]
  | 3 => [.sipush 0, .ireturn]
  | _ => []
def zP_205 : Nat → List Nat
  | 0 => [0, 1, 2]
  | 1 => [2, 3, 4, 7, 10, 11, 12, 13, 14, 17, 20, 21, 22]
  | 2 => [22, 25, 28]
  | 3 => [28, 29, 30]
  | _ => [30]
def zB_206 : Nat → List Instr
  | 0 => [.aload 0, .sipush 2101, .putfield 809, .aload 0, .sipush 0, .putfield 810, .sipush 0, .istore 2]
  | 1 => [.iload 2, .aload 0, .getfield 804, .if_icmp .ge 7, .aload 0, .getfield 805, .iload 2, .iaload, .iload 1, .if_icmp .ne 6, .aload 0, .aload 0, .getfield 807, .iload 2, .iaload, .aload 0, .getfield 809, .if_icmp .ge 2, .aload 0, .getfield 807, .iload 2, .iaload, .goto 3]
  | 2 => [.aload 0, .getfield 809]
  | 3 => [.putfield 809, .aload 0, .aload 0, .getfield 808, .iload 2, .iaload, .aload 0, .getfield 810, .if_icmp .le 4, .aload 0, .getfield 808, .iload 2, .iaload, .goto 5]
  | 4 => [.aload 0, .getfield 810]
  | 5 => [.putfield 810]
  | 6 => [.iinc 2 1, .goto 1]
  | 7 => [.return_]
  | _ => []
def zP_206 : Nat → List Nat
  | 0 => [0, 1, 4, 7, 8, 9, 12, 13, 14]
  | 1 => [14, 15, 16, 19, 22, 23, 26, 27, 28, 29, 32, 33, 34, 37, 38, 39, 40, 43, 46, 47, 50, 51, 52, 55]
  | 2 => [55, 56, 59]
  | 3 => [59, 62, 63, 64, 67, 68, 69, 70, 73, 76, 77, 80, 81, 82, 85]
  | 4 => [85, 86, 89]
  | 5 => [89, 92]
  | 6 => [92, 95, 98]
  | 7 => [98, 99]
  | _ => [99]
def zB_207 : Nat → List Instr
  | 0 => [.iload 2, .aload 0, .getfield 809, .if_icmp .le 1, .iload 2, .aload 0, .getfield 810, .if_icmp .ge 1, .aload 0, .iload 1, .iload 2, .invokevirtual 205, .ifCond .ne 1, .sipush 1, .goto 2]
  | 1 => [.sipush 0]
  | 2 => [.ireturn]
  | _ => []
def zP_207 : Nat → List Nat
  | 0 => [0, 1, 2, 5, 8, 9, 10, 13, 16, 17, 18, 19, 22, 25, 26, 29]
  | 1 => [29, 30]
  | 2 => [30, 31]
  | _ => [31]
def zB_208 : Nat → List Instr
  | 0 => [.aload 0, .iload 1, .invokevirtual 206, .sipush 0, .istore 3, .aload 0, .getfield 809, .istore 4]
  | 1 => [.iload 4, .aload 0, .getfield 810, .if_icmp .gt 7, .aload 0, .iload 1, .iload 4, .invokevirtual 207, .ifCond .ne 2, .goto 6]
  | 2 => [.aload 0, .iload 1, .iload 4, .sipush 1, .isub, .invokevirtual 207, .ifCond .ne 3, .iinc 3 1]
  | 3 => [.iload 3, .sipush 1, .isub, .iload 2, .if_icmp .ne 6, .aload 0, .aload 0, .iload 1, .iload 4, .sipush 1, .isub, .invokevirtual 207, .ifCond .eq 4, .aload 0, .getfield 811, .goto 5]
  | 4 => [.iload 4]
  | 5 => [.putfield 811, .aload 0, .iload 4, .putfield 812]
  | 6 => [.iinc 4 1, .goto 1]
  | 7 => [.iload 3, .ireturn]
  | _ => []
def zP_208 : Nat → List Nat
  | 0 => [0, 1, 2, 5, 6, 7, 8, 11, 13]
  | 1 => [13, 15, 16, 19, 22, 23, 24, 26, 29, 32, 35]
  | 2 => [35, 36, 37, 39, 40, 41, 44, 47, 50]
  | 3 => [50, 51, 52, 53, 54, 57, 58, 59, 60, 62, 63, 64, 67, 70, 71, 74, 77]
  | 4 => [77, 79]
  | 5 => [79, 82, 83, 85, 88]
  | 6 => [88, 91, 94]
  | 7 => [94, 95, 96]
  | _ => [96]
def zB_209 : Nat → List Instr
  | 0 => [.sipush 0, .istore 2, .sipush 0, .istore 3]
  | 1 => [.iload 3, .aload 0, .getfield 804, .if_icmp .ge 8, .sipush 0, .istore 4]
  | 2 => [.iload 4, .iload 3, .if_icmp .ge 7, .aload 0, .getfield 805, .iload 3, .iaload, .iload 1, .if_icmp .ne 3, .aload 0, .getfield 805, .iload 4, .iaload, .iload 1, .if_icmp .ne 3, .aload 0, .getfield 806, .iload 3, .iaload, .aload 0, .getfield 806, .iload 4, .iaload, .if_icmp .eq 3, .sipush 1, .goto 4]
  | 3 => [.sipush 0]
  | 4 => [.istore 5, .iload 2, .iload 5, .ifCond .eq 5, .aload 0, .getfield 807, .iload 3, .iaload, .aload 0, .getfield 808, .iload 4, .iaload, .if_icmp .gt 5, .aload 0, .getfield 807, .iload 4, .iaload, .aload 0, .getfield 808, .iload 3, .iaload, .if_icmp .gt 5, .sipush 1, .goto 6]
  | 5 => [.sipush 0]
  | 6 => [.iadd, .istore 2, .iinc 4 1, .goto 2]
  | 7 => [.iinc 3 1, .goto 1]
  | 8 => [.iload 2, .ireturn]
  | _ => []
def zP_209 : Nat → List Nat
  | 0 => [0, 1, 2, 3, 4]
  | 1 => [4, 5, 6, 9, 12, 13, 15]
  | 2 => [15, 17, 18, 21, 22, 25, 26, 27, 28, 31, 32, 35, 37, 38, 39, 42, 43, 46, 47, 48, 49, 52, 54, 55, 58, 59, 62]
  | 3 => [62, 63]
  | 4 => [63, 65, 66, 68, 71, 72, 75, 76, 77, 78, 81, 83, 84, 87, 88, 91, 93, 94, 95, 98, 99, 100, 103, 104, 107]
  | 5 => [107, 108]
  | 6 => [108, 109, 110, 113, 116]
  | 7 => [116, 119, 122]
  | 8 => [122, 123, 124]
  | _ => [124]
def zB_210 : Nat → List Instr
  | 0 => [.aload 0, .iload 1, .invokevirtual 152, .ifCond .ne 1, .sipush (-1), .ireturn]
  | 1 => [.iload 2, .sipush 0, .sipush 1, .invokestatic 150, .ifCond .ne 2, .sipush (-2), .ireturn]
  | 2 => [.iload 2, .ifCond .ne 3, .aload 0, .iload 1, .sipush (-1), .invokevirtual 208, .goto 4]
  | 3 => [.aload 0, .iload 1, .invokevirtual 209]
  | 4 => [.ireturn]
  | _ => []
def zP_210 : Nat → List Nat
  | 0 => [0, 1, 2, 5, 8, 9, 10]
  | 1 => [10, 11, 12, 13, 16, 19, 21, 22]
  | 2 => [22, 23, 26, 27, 28, 29, 32, 35]
  | 3 => [35, 36, 37, 40]
  | 4 => [40, 41]
  | _ => [41]
def zB_211 : Nat → List Instr
  | 0 => [.aload 0, .iload 1, .invokevirtual 152, .ifCond .eq 1, .iload 2, .ifCond .lt 1, .iload 2, .aload 0, .iload 1, .iload 2, .invokevirtual 208, .if_icmp .lt 2]
  | 1 => [.sipush (-1), .ireturn]
  | 2 => [.iload 3, .ifCond .ne 3, .aload 0, .getfield 811, .goto 5]
  | 3 => [.iload 3, .sipush 1, .if_icmp .ne 4, .aload 0, .getfield 812, .goto 5]
  | 4 => [.sipush (-2)]
  | 5 => [.ireturn]
  | _ => []
def zP_211 : Nat → List Nat
  | 0 => [0, 1, 2, 5, 8, 9, 12, 13, 14, 15, 16, 19, 22]
  | 1 => [22, 23, 24]
  | 2 => [24, 25, 28, 29, 32, 35]
  | 3 => [35, 36, 37, 40, 41, 44, 47]
  | 4 => [47, 49]
  | 5 => [49, 50]
  | _ => [50]
def zB_212 : Nat → List Instr
  | 0 => [.sipush (-9), .istore 4, .aload 0, .getfield 804, .sipush 1, .isub, .istore 5]
  | 1 => [.iload 5, .ifCond .lt 4, .aload 0, .iload 5, .iload 1, .iload 3, .invokevirtual 204, .ifCond .eq 2, .aload 0, .getfield 806, .iload 5, .iaload, .iload 2, .if_icmp .ne 2, .iload 5, .goto 3]
  | 2 => [.iload 4]
  | 3 => [.istore 4, .iinc 5 (-1), .goto 1]
  | 4 => [.iload 4, .sipush (-9), .if_icmp .eq 5, .aload 0, .iload 1, .aload 0, .getfield 808, .iload 4, .iaload, .sipush 1, .iadd, .invokevirtual 205, .ifCond .eq 6]
  | 5 => [.sipush 0, .ireturn]
  | 6 => [.sipush (-9), .istore 5, .sipush 0, .istore 6]
  | 7 => [.iload 6, .aload 0, .getfield 804, .if_icmp .ge 10, .aload 0, .getfield 805, .iload 6, .iaload, .iload 1, .if_icmp .ne 9, .aload 0, .getfield 807, .iload 6, .iaload, .iload 3, .if_icmp .le 9, .iload 5, .sipush (-9), .if_icmp .eq 8, .aload 0, .getfield 807, .iload 6, .iaload, .aload 0, .getfield 807, .iload 5, .iaload, .if_icmp .ge 9]
  | 8 => [.iload 6, .istore 5]
  | 9 => [.iinc 6 1, .goto 7]
  | 10 => [.iload 5, .sipush (-9), .if_icmp .eq 11, .aload 0, .getfield 806, .iload 5, .iaload, .iload 2, .if_icmp .eq 11, .sipush 1, .goto 12]
  | 11 => [.sipush 0]
  | 12 => [.ireturn]
  | _ => []
def zP_212 : Nat → List Nat
  | 0 => [0, 2, 4, 5, 8, 9, 10, 12]
  | 1 => [12, 14, 17, 18, 20, 21, 22, 25, 28, 29, 32, 34, 35, 36, 39, 41, 44]
  | 2 => [44, 46]
  | 3 => [46, 48, 51, 54]
  | 4 => [54, 56, 58, 61, 62, 63, 64, 67, 69, 70, 71, 72, 75, 78]
  | 5 => [78, 79, 80]
  | 6 => [80, 82, 84, 85, 87]
  | 7 => [87, 89, 90, 93, 96, 97, 100, 102, 103, 104, 107, 108, 111, 113, 114, 115, 118, 120, 122, 125, 126, 129, 131, 132, 133, 136, 138, 139, 142]
  | 8 => [142, 144, 146]
  | 9 => [146, 149, 152]
  | 10 => [152, 154, 156, 159, 160, 163, 165, 166, 167, 170, 171, 174]
  | 11 => [174, 175]
  | 12 => [175, 176]
  | _ => [176]
def zB_213 : Nat → List Instr
  | 0 => [.aload 0, .iload 1, .invokevirtual 206, .sipush 0, .istore 4, .sipush 0, .istore 5, .sipush 0, .istore 6]
  | 1 => [.iload 6, .aload 0, .getfield 804, .if_icmp .ge 7, .aload 0, .iload 6, .iload 1, .iload 3, .invokevirtual 204, .ifCond .eq 6, .iload 4, .aload 0, .getfield 806, .iload 6, .iaload, .iload 2, .if_icmp .ne 2, .sipush 1, .goto 3]
  | 2 => [.sipush 0]
  | 3 => [.ior, .istore 4, .iload 5, .aload 0, .getfield 806, .iload 6, .iaload, .iload 2, .if_icmp .eq 4, .sipush 1, .goto 5]
  | 4 => [.sipush 0]
  | 5 => [.ior, .istore 5]
  | 6 => [.iinc 6 1, .goto 1]
  | 7 => [.aload 0, .iload 1, .iload 3, .invokevirtual 207, .ifCond .ne 8, .iload 4, .ifCond .eq 9, .iload 5, .ifCond .eq 9]
  | 8 => [.sipush 1, .goto 10]
  | 9 => [.sipush 0]
  | 10 => [.ireturn]
  | _ => []
def zP_213 : Nat → List Nat
  | 0 => [0, 1, 2, 5, 6, 8, 9, 11, 12, 14]
  | 1 => [14, 16, 17, 20, 23, 24, 26, 27, 28, 31, 34, 36, 37, 40, 42, 43, 44, 47, 48, 51]
  | 2 => [51, 52]
  | 3 => [52, 53, 55, 57, 58, 61, 63, 64, 65, 68, 69, 72]
  | 4 => [72, 73]
  | 5 => [73, 74, 76]
  | 6 => [76, 79, 82]
  | 7 => [82, 83, 84, 85, 88, 91, 93, 96, 98, 101]
  | 8 => [101, 102, 105]
  | 9 => [105, 106]
  | 10 => [106, 107]
  | _ => [107]
def zB_214 : Nat → List Instr
  | 0 => [.aload 0, .iload 1, .invokevirtual 152, .ifCond .ne 1, .sipush (-1), .ireturn]
  | 1 => [.iload 2, .sipush 0, .sipush 99, .invokestatic 150, .ifCond .eq 2, .iload 3, .invokestatic 202, .ifCond .ne 3]
  | 2 => [.sipush (-2), .ireturn]
  | 3 => [.aload 0, .iload 1, .iload 2, .iload 3, .invokevirtual 212, .ifCond .eq 4, .sipush 2, .goto 6]
  | 4 => [.aload 0, .iload 1, .iload 2, .iload 3, .invokevirtual 213, .ifCond .eq 5, .sipush 1, .goto 6]
  | 5 => [.sipush 0]
  | 6 => [.ireturn]
  | _ => []
def zP_214 : Nat → List Nat
  | 0 => [0, 1, 2, 5, 8, 9, 10]
  | 1 => [10, 11, 12, 14, 17, 20, 21, 24, 27]
  | 2 => [27, 29, 30]
  | 3 => [30, 31, 32, 33, 34, 37, 40, 41, 44]
  | 4 => [44, 45, 46, 47, 48, 51, 54, 55, 58]
  | 5 => [58, 59]
  | 6 => [59, 60]
  | _ => [60]
def zB_215 : Nat → List Instr
  | 0 => [.aload 0, .iload 1, .invokevirtual 152, .ifCond .ne 1, .sipush (-1), .ireturn]
  | 1 => [.iload 2, .invokestatic 151, .ifCond .eq 2, .iload 3, .sipush (-1), .sipush 1, .invokestatic 150, .ifCond .ne 3]
  | 2 => [.sipush (-2), .ireturn]
  | 3 => [.sipush 0, .istore 4]
  | 4 => [.iload 4, .aload 0, .getfield 813, .if_icmp .ge 6, .aload 0, .getfield 814, .iload 4, .iaload, .iload 1, .if_icmp .ne 5, .aload 0, .getfield 815, .iload 4, .iaload, .iload 2, .if_icmp .ne 5, .sipush (-3), .ireturn]
  | 5 => [.iinc 4 1, .goto 4]
  | 6 => [.aload 0, .getfield 813, .sipush 40, .if_icmp .ne 7, .sipush (-4), .ireturn]
  | 7 => [.aload 0, .getfield 814, .aload 0, .getfield 813, .iload 1, .iastore, .aload 0, .getfield 815, .aload 0, .getfield 813, .iload 2, .iastore, .aload 0, .getfield 816, .aload 0, .getfield 813, .iload 3, .iastore, .aload 0, .dup, .getfield 813, .sipush 1, .iadd, .putfield 813, .aload 0, .getfield 813, .sipush 1, .isub, .ireturn]
  | _ => []
def zP_215 : Nat → List Nat
  | 0 => [0, 1, 2, 5, 8, 9, 10]
  | 1 => [10, 11, 14, 17, 18, 19, 20, 23, 26]
  | 2 => [26, 28, 29]
  | 3 => [29, 30, 32]
  | 4 => [32, 34, 35, 38, 41, 42, 45, 47, 48, 49, 52, 53, 56, 58, 59, 60, 63, 65, 66]
  | 5 => [66, 69, 72]
  | 6 => [72, 73, 76, 78, 81, 83, 84]
  | 7 => [84, 85, 88, 89, 92, 93, 94, 95, 98, 99, 102, 103, 104, 105, 108, 109, 112, 113, 114, 115, 116, 119, 120, 121, 124, 125, 128, 129, 130, 131]
  | _ => [131]
def zB_216 : Nat → List Instr
  | 0 => [.iload 1, .ifCond .lt 1, .iload 1, .aload 0, .getfield 813, .if_icmp .lt 2]
  | 1 => [.sipush (-1), .ireturn]
  | 2 => [.iload 2, .sipush (-1), .sipush 1, .invokestatic 150, .ifCond .ne 3, .sipush (-2), .ireturn]
  | 3 => [.aload 0, .getfield 816, .iload 1, .iaload, .ifCond .ge 4, .sipush (-9), .goto 5]
  | 4 => [.aload 0, .getfield 816, .iload 1, .iaload]
  | 5 => [.istore 3, .aload 0, .getfield 816, .iload 1, .iload 2, .iastore, .iload 3, .ireturn]
  | _ => []
def zP_216 : Nat → List Nat
  | 0 => [0, 1, 4, 5, 6, 9, 12]
  | 1 => [12, 13, 14]
  | 2 => [14, 15, 16, 17, 20, 23, 25, 26]
  | 3 => [26, 27, 30, 31, 32, 35, 37, 40]
  | 4 => [40, 41, 44, 45, 46]
  | 5 => [46, 47, 48, 51, 52, 53, 54, 55, 56]
  | _ => [56]
def zB_217 : Nat → List Instr
  | 0 => [.iload 1, .aload 0, .getfield 819, .sipush 1, .isub, .iload 2, .isub, .ishr, .sipush 1, .iand, .ireturn]
  | _ => []
def zP_217 : Nat → List Nat
  | 0 => [0, 1, 2, 5, 6, 7, 8, 9, 10, 11, 12, 13]
  | _ => [13]
def zB_218 : Nat → List Instr
  | 0 => [.sipush 0, .istore 2]
  | 1 => [.iload 2, .aload 0, .getfield 819, .if_icmp .ge 3, .aload 0, .getfield 816, .aload 0, .getfield 818, .iload 2, .iaload, .iaload, .ifCond .lt 2, .aload 0, .getfield 816, .aload 0, .getfield 818, .iload 2, .iaload, .iaload, .aload 0, .iload 1, .iload 2, .invokevirtual 217, .if_icmp .eq 2, .sipush 0, .ireturn]
  | 2 => [.iinc 2 1, .goto 1]
  | 3 => [.sipush 1, .ireturn]
  | _ => []
def zP_218 : Nat → List Nat
  | 0 => [0, 1, 2]
  | 1 => [2, 3, 4, 7, 10, 11, 14, 15, 18, 19, 20, 21, 24, 25, 28, 29, 32, 33, 34, 35, 36, 37, 38, 41, 44, 45, 46]
  | 2 => [46, 49, 52]
  | 3 => [52, 53, 54]
  | _ => [54]
def zB_219 : Nat → List Instr
  | 0 => [.sipush 0, .istore 2, .sipush 0, .istore 3, .sipush 0, .istore 4]
  | 1 => [.iload 4, .aload 0, .getfield 819, .if_icmp .ge 6, .aload 0, .getfield 773, .aload 0, .getfield 814, .aload 0, .getfield 818, .iload 4, .iaload, .iaload, .iaload, .istore 5, .iload 2, .aload 0, .iload 1, .iload 4, .invokevirtual 217, .ifCond .ne 2, .iload 5, .goto 3]
  | 2 => [.sipush 0]
  | 3 => [.iadd, .istore 2, .iload 3, .aload 0, .iload 1, .iload 4, .invokevirtual 217, .sipush 1, .if_icmp .ne 4, .iload 5, .goto 5]
  | 4 => [.sipush 0]
  | 5 => [.iadd, .istore 3, .iinc 4 1, .goto 1]
  | 6 => [.iload 2, .iload 3, .if_icmp .le 7, .iload 2, .goto 8]
  | 7 => [.iload 3]
  | 8 => [.ireturn]
  | _ => []
def zP_219 : Nat → List Nat
  | 0 => [0, 1, 2, 3, 4, 5, 7]
  | 1 => [7, 9, 10, 13, 16, 17, 20, 21, 24, 25, 28, 30, 31, 32, 33, 35, 36, 37, 38, 40, 43, 46, 48, 51]
  | 2 => [51, 52]
  | 3 => [52, 53, 54, 55, 56, 57, 59, 62, 63, 66, 68, 71]
  | 4 => [71, 72]
  | 5 => [72, 73, 74, 77, 80]
  | 6 => [80, 81, 82, 85, 86, 89]
  | 7 => [89, 90]
  | 8 => [90, 91]
  | _ => [91]
def zB_220 : Nat → List Instr
  | 0 => [.aload 0, .sipush 0, .putfield 819, .sipush 0, .istore 2]
  | 1 => [.iload 2, .aload 0, .getfield 813, .if_icmp .ge 3, .aload 0, .getfield 815, .iload 2, .iaload, .iload 1, .if_icmp .ne 2, .aload 0, .getfield 818, .aload 0, .getfield 819, .iload 2, .iastore, .aload 0, .dup, .getfield 819, .sipush 1, .iadd, .putfield 819]
  | 2 => [.iinc 2 1, .goto 1]
  | 3 => [.aload 0, .sipush (-9), .putfield 820, .aload 0, .sipush 0, .putfield 821, .sipush 0, .istore 2]
  | 4 => [.iload 2, .sipush 1, .aload 0, .getfield 819, .ishl, .if_icmp .ge 7, .aload 0, .iload 2, .invokevirtual 218, .ifCond .eq 6, .aload 0, .iload 2, .invokevirtual 219, .istore 3, .aload 0, .getfield 820, .sipush (-9), .if_icmp .eq 5, .iload 3, .aload 0, .getfield 821, .if_icmp .ge 6]
  | 5 => [.aload 0, .iload 2, .putfield 820, .aload 0, .iload 3, .putfield 821]
  | 6 => [.iinc 2 1, .goto 4]
  | 7 => [.return_]
  | _ => []
def zP_220 : Nat → List Nat
  | 0 => [0, 1, 2, 5, 6, 7]
  | 1 => [7, 8, 9, 12, 15, 16, 19, 20, 21, 22, 25, 26, 29, 30, 33, 34, 35, 36, 37, 40, 41, 42, 45]
  | 2 => [45, 48, 51]
  | 3 => [51, 52, 54, 57, 58, 59, 62, 63, 64]
  | 4 => [64, 65, 66, 67, 70, 71, 74, 75, 76, 79, 82, 83, 84, 87, 88, 89, 92, 94, 97, 98, 99, 102, 105]
  | 5 => [105, 106, 107, 110, 111, 112, 115]
  | 6 => [115, 118, 121]
  | 7 => [121, 122]
  | _ => [122]
def zB_221 : Nat → List Instr
  | 0 => [.iload 1, .invokestatic 151, .ifCond .ne 1, .sipush (-2), .ireturn]
  | 1 => [.aload 0, .iload 1, .invokevirtual 220, .aload 0, .getfield 821, .ireturn]
  | _ => []
def zP_221 : Nat → List Nat
  | 0 => [0, 1, 4, 7, 9, 10]
  | 1 => [10, 11, 12, 15, 16, 19, 20]
  | _ => [20]
def zB_222 : Nat → List Instr
  | 0 => [.iload 1, .ifCond .lt 1, .iload 1, .aload 0, .getfield 813, .if_icmp .lt 2]
  | 1 => [.sipush (-1), .ireturn]
  | 2 => [.aload 0, .aload 0, .getfield 815, .iload 1, .iaload, .invokevirtual 220, .sipush 0, .istore 2]
  | 3 => [.aload 0, .getfield 818, .iload 2, .iaload, .iload 1, .if_icmp .eq 4, .iinc 2 1, .goto 3]
  | 4 => [.aload 0, .aload 0, .getfield 820, .iload 2, .invokevirtual 217, .ireturn]
  | _ => []
def zP_222 : Nat → List Nat
  | 0 => [0, 1, 4, 5, 6, 9, 12]
  | 1 => [12, 13, 14]
  | 2 => [14, 15, 16, 19, 20, 21, 24, 25, 26]
  | 3 => [26, 27, 30, 31, 32, 33, 36, 39, 42]
  | 4 => [42, 43, 44, 47, 48, 51, 52]
  | _ => [52]
def zB_223 : Nat → List Instr
  | 0 => [.iload 1, .sipush 1, .sipush 100000000, .invokestatic 150, .ifCond .ne 1, .sipush (-2), .ireturn]
  | 1 => [.aload 0, .getfield 817, .istore 2, .aload 0, .iload 1, .putfield 817, .iload 2, .ireturn]
  | _ => []
def zP_223 : Nat → List Nat
  | 0 => [0, 1, 2, 5, 8, 11, 13, 14]
  | 1 => [14, 15, 18, 19, 20, 21, 24, 25, 26]
  | _ => [26]
def zB_224 : Nat → List Instr
  | 0 => [.sipush 0, .istore 1, .sipush 0, .istore 2]
  | 1 => [.iload 2, .aload 0, .getfield 813, .if_icmp .ge 9, .sipush 1, .istore 3, .sipush 0, .istore 4]
  | 2 => [.iload 4, .iload 2, .if_icmp .ge 5, .iload 3, .aload 0, .getfield 815, .iload 4, .iaload, .aload 0, .getfield 815, .iload 2, .iaload, .if_icmp .eq 3, .sipush 1, .goto 4]
  | 3 => [.sipush 0]
  | 4 => [.iand, .istore 3, .iinc 4 1, .goto 2]
  | 5 => [.iload 3, .ifCond .eq 8, .aload 0, .aload 0, .getfield 815, .iload 2, .iaload, .invokevirtual 220, .iload 1, .aload 0, .getfield 821, .aload 0, .getfield 817, .if_icmp .le 6, .sipush 1, .goto 7]
  | 6 => [.sipush 0]
  | 7 => [.iadd, .istore 1]
  | 8 => [.iinc 2 1, .goto 1]
  | 9 => [.iload 1, .ireturn]
  | _ => []
def zP_224 : Nat → List Nat
  | 0 => [0, 1, 2, 3, 4]
  | 1 => [4, 5, 6, 9, 12, 13, 14, 15, 17]
  | 2 => [17, 19, 20, 23, 24, 25, 28, 30, 31, 32, 35, 36, 37, 40, 41, 44]
  | 3 => [44, 45]
  | 4 => [45, 46, 47, 50, 53]
  | 5 => [53, 54, 57, 58, 59, 62, 63, 64, 67, 68, 69, 72, 73, 76, 79, 80, 83]
  | 6 => [83, 84]
  | 7 => [84, 85, 86]
  | 8 => [86, 89, 92]
  | 9 => [92, 93, 94]
  | _ => [94]
def zB_225 : Nat → List Instr
  | 0 => [.aload 0, .sipush 0, .putfield 768, .iload 1, .invokestatic 174, .ifCond .ne 1, .sipush (-1), .ireturn]
  | 1 => [.iload 2, .invokestatic 175, .ifCond .eq 2, .iload 5, .sipush 0, .sipush 100, .invokestatic 150, .ifCond .eq 2, .iload 6, .iload 5, .sipush 100, .invokestatic 150, .ifCond .eq 2, .iload 7, .sipush 0, .sipush 1, .invokestatic 150, .ifCond .ne 3]
  | 2 => [.sipush (-2), .ireturn]
  | 3 => [.aload 0, .iload 1, .iload 2, .iload 3, .iload 4, .invokevirtual 173, .istore 8, .iload 8, .ifCond .eq 4, .iload 8, .ireturn]
  | 4 => [.sipush 60, .iload 1, .imul, .iload 3, .iadd, .istore 9, .sipush 0, .istore 10]
  | 5 => [.iload 10, .iload 4, .if_icmp .ge 7, .aload 0, .getfield 785, .iload 9, .iload 10, .iadd, .iaload, .sipush (-1), .sipush 100, .invokestatic 150, .ifCond .ne 6, .sipush (-2), .ireturn]
  | 6 => [.iinc 10 1, .goto 5]
  | 7 => [.sipush 0, .istore 10, .sipush 0, .istore 11, .sipush 0, .istore 12, .sipush 0, .istore 13]
  | 8 => [.iload 13, .iload 4, .if_icmp .ge 16, .aload 0, .getfield 785, .iload 9, .iload 13, .iadd, .iaload, .istore 14, .iload 14, .iload 5, .iload 6, .invokestatic 150, .ifCond .eq 9, .sipush 0, .istore 11, .sipush 0, .istore 12, .goto 15]
  | 9 => [.iinc 11 1, .iload 12, .iload 14, .ifCond .lt 10, .sipush 1, .goto 11]
  | 10 => [.sipush 0]
  | 11 => [.ior, .istore 12, .iload 11, .iload 10, .if_icmp .le 13, .iload 7, .ifCond .eq 12, .iload 12, .ifCond .eq 13]
  | 12 => [.iload 11, .goto 14]
  | 13 => [.iload 10]
  | 14 => [.istore 10]
  | 15 => [.iinc 13 1, .goto 8]
  | 16 => [.iload 10, .ireturn]
  | _ => []
def zP_225 : Nat → List Nat
  | 0 => [0, 1, 2, 5, 6, 9, 12, 13, 14]
  | 1 => [14, 15, 18, 21, 23, 24, 26, 29, 32, 34, 36, 38, 41, 44, 46, 47, 48, 51, 54]
  | 2 => [54, 56, 57]
  | 3 => [57, 58, 59, 60, 61, 63, 66, 68, 70, 73, 75, 76]
  | 4 => [76, 78, 79, 80, 81, 82, 84, 85, 87]
  | 5 => [87, 89, 91, 94, 95, 98, 100, 102, 103, 104, 105, 107, 110, 113, 115, 116]
  | 6 => [116, 119, 122]
  | 7 => [122, 123, 125, 126, 128, 129, 131, 132, 134]
  | 8 => [134, 136, 138, 141, 142, 145, 147, 149, 150, 151, 153, 155, 157, 159, 162, 165, 166, 168, 169, 171, 174]
  | 9 => [174, 177, 179, 181, 184, 185, 188]
  | 10 => [188, 189]
  | 11 => [189, 190, 192, 194, 196, 199, 201, 204, 206, 209]
  | 12 => [209, 211, 214]
  | 13 => [214, 216]
  | 14 => [216, 218]
  | 15 => [218, 221, 224]
  | 16 => [224, 226, 227]
  | _ => [227]
def zB_226 : Nat → List Instr
  | 0 => [.sipush 0, .istore 3]
  | 1 => [.iload 3, .iload 2, .if_icmp .ge 3, .aload 0, .getfield 785, .iload 1, .iload 3, .iadd, .iaload, .sipush 1, .sipush 255, .invokestatic 150, .ifCond .ne 2, .sipush 0, .ireturn]
  | 2 => [.iinc 3 1, .goto 1]
  | 3 => [.sipush 1, .ireturn]
  | _ => []
def zP_226 : Nat → List Nat
  | 0 => [0, 1, 2]
  | 1 => [2, 3, 4, 7, 8, 11, 12, 13, 14, 15, 16, 19, 22, 25, 26, 27]
  | 2 => [27, 30, 33]
  | 3 => [33, 34, 35]
  | _ => [35]
def zB_227 : Nat → List Instr
  | 0 => [.aload 0, .sipush 0, .putfield 768, .aload 0, .iload 1, .invokevirtual 152, .ifCond .eq 1, .iload 2, .invokestatic 174, .ifCond .ne 2]
  | 1 => [.sipush (-1), .ireturn]
  | 2 => [.iload 3, .invokestatic 175, .ifCond .ne 3, .sipush (-2), .ireturn]
  | 3 => [.aload 0, .iload 2, .iload 3, .iload 4, .iload 5, .invokevirtual 173, .istore 6, .iload 6, .ifCond .eq 4, .iload 6, .ireturn]
  | 4 => [.sipush 60, .iload 2, .imul, .iload 4, .iadd, .istore 7, .iload 5, .sipush 20, .if_icmp .gt 5, .aload 0, .iload 7, .iload 5, .invokevirtual 226, .ifCond .ne 6]
  | 5 => [.sipush (-2), .ireturn]
  | 6 => [.aload 0, .getfield 822, .iload 1, .iload 5, .iastore, .sipush 0, .istore 8]
  | 7 => [.iload 8, .iload 5, .if_icmp .ge 8, .aload 0, .getfield 823, .sipush 20, .iload 1, .imul, .iload 8, .iadd, .aload 0, .getfield 785, .iload 7, .iload 8, .iadd, .iaload, .iastore, .iinc 8 1, .goto 7]
  | 8 => [.iload 5, .ireturn]
  | _ => []
def zP_227 : Nat → List Nat
  | 0 => [0, 1, 2, 5, 6, 7, 10, 13, 14, 17, 20]
  | 1 => [20, 21, 22]
  | 2 => [22, 23, 26, 29, 31, 32]
  | 3 => [32, 33, 34, 35, 37, 39, 42, 44, 46, 49, 51, 52]
  | 4 => [52, 54, 55, 56, 58, 59, 61, 63, 65, 68, 69, 71, 73, 76, 79]
  | 5 => [79, 81, 82]
  | 6 => [82, 83, 86, 87, 89, 90, 91, 93]
  | 7 => [93, 95, 97, 100, 101, 104, 106, 107, 108, 110, 111, 112, 115, 117, 119, 120, 121, 122, 125, 128]
  | 8 => [128, 130, 131]
  | _ => [131]
def zB_228 : Nat → List Instr
  | 0 => [.aload 0, .sipush 0, .putfield 768, .iload 1, .invokestatic 174, .ifCond .ne 1, .sipush (-1), .ireturn]
  | 1 => [.iload 2, .invokestatic 175, .ifCond .eq 2, .iload 5, .sipush 0, .sipush 2100, .invokestatic 150, .ifCond .ne 3]
  | 2 => [.sipush (-2), .ireturn]
  | 3 => [.aload 0, .iload 1, .iload 2, .iload 3, .iload 4, .invokevirtual 173, .istore 6, .iload 6, .ifCond .eq 4, .iload 6, .ireturn]
  | 4 => [.sipush 60, .iload 1, .imul, .iload 3, .iadd, .istore 7, .aload 0, .iload 7, .iload 4, .invokevirtual 226, .ifCond .ne 5, .sipush (-2), .ireturn]
  | 5 => [.aload 0, .iload 4, .putfield 824, .aload 0, .iload 5, .putfield 826, .sipush 0, .istore 8]
  | 6 => [.iload 8, .iload 4, .if_icmp .ge 7, .aload 0, .getfield 825, .iload 8, .aload 0, .getfield 785, .iload 7, .iload 8, .iadd, .iaload, .iastore, .iinc 8 1, .goto 6]
  | 7 => [.iload 4, .ireturn]
  | _ => []
def zP_228 : Nat → List Nat
  | 0 => [0, 1, 2, 5, 6, 9, 12, 13, 14]
  | 1 => [14, 15, 18, 21, 23, 24, 27, 30, 33]
  | 2 => [33, 35, 36]
  | 3 => [36, 37, 38, 39, 40, 42, 45, 47, 49, 52, 54, 55]
  | 4 => [55, 57, 58, 59, 60, 61, 63, 64, 66, 68, 71, 74, 76, 77]
  | 5 => [77, 78, 80, 83, 84, 86, 89, 90, 92]
  | 6 => [92, 94, 96, 99, 100, 103, 105, 106, 109, 111, 113, 114, 115, 116, 119, 122]
  | 7 => [122, 124, 125]
  | _ => [125]
def zB_229 : Nat → List Instr
  | 0 => [.iload 0, .ifCond .le 1, .sipush 1, .goto 3]
  | 1 => [.iload 0, .ifCond .ge 2, .sipush (-1), .goto 3]
  | 2 => [.sipush 0]
  | 3 => [.ireturn]
  | _ => []
def zP_229 : Nat → List Nat
  | 0 => [0, 1, 4, 5, 8]
  | 1 => [8, 9, 12, 13, 16]
  | 2 => [16, 17]
  | 3 => [17, 18]
  | _ => [18]
def zB_230 : Nat → List Instr
  | 0 => [.aload 0, .sipush 0, .putfield 827, .aload 0, .sipush 0, .putfield 828, .sipush 0, .istore 3]
  | 1 => [.iload 3, .sipush 1, .iadd, .aload 0, .getfield 822, .iload 1, .iaload, .if_icmp .ge 7, .iload 2, .iload 3, .iadd, .istore 4, .iload 4, .ifCond .lt 6, .iload 4, .sipush 1, .iadd, .aload 0, .getfield 824, .if_icmp .ge 6, .aload 0, .getfield 823, .sipush 20, .iload 1, .imul, .iload 3, .iadd, .sipush 1, .iadd, .iaload, .aload 0, .getfield 823, .sipush 20, .iload 1, .imul, .iload 3, .iadd, .iaload, .isub, .invokestatic 229, .aload 0, .getfield 825, .iload 4, .sipush 1, .iadd, .iaload, .aload 0, .getfield 825, .iload 4, .iaload, .isub, .invokestatic 229, .if_icmp .ne 2, .sipush 1, .goto 3]
  | 2 => [.sipush 0]
  | 3 => [.istore 5, .aload 0, .dup, .getfield 827, .sipush 1, .iadd, .putfield 827, .aload 0, .dup, .getfield 828, .iload 5, .ifCond .eq 4, .sipush 1, .goto 5]
  | 4 => [.sipush (-1)]
  | 5 => [.iadd, .putfield 828]
  | 6 => [.iinc 3 1, .goto 1]
  | 7 => [.return_]
  | _ => []
def zP_230 : Nat → List Nat
  | 0 => [0, 1, 2, 5, 6, 7, 10, 11, 12]
  | 1 => [12, 13, 14, 15, 16, 19, 20, 21, 24, 25, 26, 27, 29, 31, 34, 36, 37, 38, 39, 42, 45, 46, 49, 51, 52, 53, 54, 55, 56, 57, 58, 59, 62, 64, 65, 66, 67, 68, 69, 70, 73, 74, 77, 79, 80, 81, 82, 83, 86, 88, 89, 90, 93, 96, 97, 100]
  | 2 => [100, 101]
  | 3 => [101, 103, 104, 105, 108, 109, 110, 113, 114, 115, 118, 120, 123, 124, 127]
  | 4 => [127, 128]
  | 5 => [128, 129, 132]
  | 6 => [132, 135, 138]
  | 7 => [138, 139]
  | _ => [139]
def zB_231 : Nat → List Instr
  | 0 => [.aload 0, .sipush 0, .putfield 827, .aload 0, .sipush 0, .putfield 828, .sipush 0, .istore 4]
  | 1 => [.iload 4, .sipush 1, .iadd, .aload 0, .getfield 822, .iload 1, .iaload, .if_icmp .ge 7, .iload 3, .iload 4, .iadd, .istore 5, .iload 5, .ifCond .lt 6, .iload 5, .sipush 1, .iadd, .aload 0, .getfield 822, .iload 2, .iaload, .if_icmp .ge 6, .aload 0, .getfield 823, .sipush 20, .iload 1, .imul, .iload 4, .iadd, .sipush 1, .iadd, .iaload, .aload 0, .getfield 823, .sipush 20, .iload 1, .imul, .iload 4, .iadd, .iaload, .isub, .invokestatic 229, .aload 0, .getfield 823, .sipush 20, .iload 2, .imul, .iload 5, .iadd, .sipush 1, .iadd, .iaload, .aload 0, .getfield 823, .sipush 20, .iload 2, .imul, .iload 5, .iadd, .iaload, .isub, .invokestatic 229, .if_icmp .ne 2, .sipush 1, .goto 3]
  | 2 => [.sipush 0]
  | 3 => [.istore 6, .aload 0, .dup, .getfield 827, .sipush 1, .iadd, .putfield 827, .aload 0, .dup, .getfield 828, .iload 6, .ifCond .eq 4, .sipush 1, .goto 5]
  | 4 => [.sipush (-1)]
  | 5 => [.iadd, .putfield 828]
  | 6 => [.iinc 4 1, .goto 1]
  | 7 => [.return_]
  | _ => []
def zP_231 : Nat → List Nat
  | 0 => [0, 1, 2, 5, 6, 7, 10, 11, 13]
  | 1 => [13, 15, 16, 17, 18, 21, 22, 23, 26, 27, 29, 30, 32, 34, 37, 39, 40, 41, 42, 45, 46, 47, 50, 51, 54, 56, 57, 58, 60, 61, 62, 63, 64, 65, 68, 70, 71, 72, 74, 75, 76, 77, 80, 81, 84, 86, 87, 88, 90, 91, 92, 93, 94, 95, 98, 100, 101, 102, 104, 105, 106, 107, 110, 113, 114, 117]
  | 2 => [117, 118]
  | 3 => [118, 120, 121, 122, 125, 126, 127, 130, 131, 132, 135, 137, 140, 141, 144]
  | 4 => [144, 145]
  | 5 => [145, 146, 149]
  | 6 => [149, 152, 155]
  | 7 => [155, 156]
  | _ => [156]
def zB_232 : Nat → List Instr
  | 0 => [.aload 0, .iload 1, .invokevirtual 152, .ifCond .eq 1, .aload 0, .getfield 822, .iload 1, .iaload, .ifCond .eq 1, .aload 0, .getfield 824, .ifCond .eq 1, .iload 2, .sipush 1, .aload 0, .getfield 822, .iload 1, .iaload, .isub, .aload 0, .getfield 824, .sipush 1, .isub, .invokestatic 150, .ifCond .eq 1, .iload 3, .sipush 0, .sipush 1, .invokestatic 150, .ifCond .ne 2]
  | 1 => [.ldc2_w 5, .lreturn]
  | 2 => [.aload 0, .iload 1, .iload 2, .invokevirtual 230, .iload 3, .ifCond .ne 3, .aload 0, .getfield 828, .i2l, .goto 4]
  | 3 => [.aload 0, .getfield 827, .i2l]
  | 4 => [.lreturn]
  | _ => []
def zP_232 : Nat → List Nat
  | 0 => [0, 1, 2, 5, 8, 9, 12, 13, 14, 17, 18, 21, 24, 25, 26, 27, 30, 31, 32, 33, 34, 37, 38, 39, 42, 45, 46, 47, 48, 51, 54]
  | 1 => [54, 57, 58]
  | 2 => [58, 59, 60, 61, 64, 65, 68, 69, 72, 73, 76]
  | 3 => [76, 77, 80, 81]
  | 4 => [81, 82]
  | _ => [82]
def zB_233 : Nat → List Instr
  | 0 => [.aload 0, .iload 1, .invokevirtual 152, .ifCond .eq 1, .iload 2, .sipush 0, .sipush 2, .invokestatic 150, .ifCond .ne 2]
  | 1 => [.ldc2_w 5, .lreturn]
  | 2 => [.sipush 0, .istore 3, .sipush 0, .istore 4, .sipush 0, .istore 5, .sipush 1, .aload 0, .getfield 822, .iload 1, .iaload, .isub, .istore 6]
  | 3 => [.iload 6, .aload 0, .getfield 824, .if_icmp .ge 6, .aload 0, .iload 1, .iload 6, .invokevirtual 230, .aload 0, .getfield 827, .sipush 5, .if_icmp .lt 5, .iload 3, .ifCond .eq 4, .aload 0, .getfield 828, .iload 5, .if_icmp .le 5]
  | 4 => [.sipush 1, .istore 3, .iload 6, .istore 4, .aload 0, .getfield 828, .istore 5]
  | 5 => [.iinc 6 1, .goto 3]
  | 6 => [.iload 3, .ifCond .ne 7, .ldc2_w 5, .lreturn]
  | 7 => [.iload 2, .ifCond .ne 8, .iload 4, .i2l, .goto 10]
  | 8 => [.iload 2, .sipush 1, .if_icmp .ne 9, .iload 5, .i2l, .goto 10]
  | 9 => [.aload 0, .getfield 826, .iload 4, .iadd, .aload 0, .getfield 822, .iload 1, .iaload, .iadd, .sipush 1, .isub, .i2l]
  | 10 => [.lreturn]
  | _ => []
def zP_233 : Nat → List Nat
  | 0 => [0, 1, 2, 5, 8, 9, 10, 11, 14, 17]
  | 1 => [17, 20, 21]
  | 2 => [21, 22, 23, 24, 26, 27, 29, 30, 31, 34, 35, 36, 37, 39]
  | 3 => [39, 41, 42, 45, 48, 49, 50, 52, 55, 56, 59, 60, 63, 64, 67, 68, 71, 73, 76]
  | 4 => [76, 77, 78, 80, 82, 83, 86, 88]
  | 5 => [88, 91, 94]
  | 6 => [94, 95, 98, 101, 102]
  | 7 => [102, 103, 106, 108, 109, 112]
  | 8 => [112, 113, 114, 117, 119, 120, 123]
  | 9 => [123, 124, 127, 129, 130, 131, 134, 135, 136, 137, 138, 139, 140]
  | 10 => [140, 141]
  | _ => [141]
def zB_234 : Nat → List Instr
  | 0 => [.aload 0, .iload 1, .invokevirtual 152, .ifCond .eq 1, .aload 0, .iload 2, .invokevirtual 152, .ifCond .ne 2]
  | 1 => [.sipush (-1), .ireturn]
  | 2 => [.iload 1, .iload 2, .if_icmp .ne 3, .sipush (-3), .ireturn]
  | 3 => [.sipush 1, .aload 0, .getfield 822, .iload 1, .iaload, .isub, .istore 3]
  | 4 => [.iload 3, .aload 0, .getfield 822, .iload 2, .iaload, .if_icmp .ge 6, .aload 0, .iload 1, .iload 2, .iload 3, .invokevirtual 231, .aload 0, .getfield 827, .sipush 5, .if_icmp .lt 5, .aload 0, .getfield 828, .aload 0, .getfield 827, .if_icmp .ne 5, .sipush 1, .ireturn]
  | 5 => [.iinc 3 1, .goto 4]
  | 6 => [.sipush 0, .ireturn]
  | _ => []
def zP_234 : Nat → List Nat
  | 0 => [0, 1, 2, 5, 8, 9, 10, 13, 16]
  | 1 => [16, 17, 18]
  | 2 => [18, 19, 20, 23, 25, 26]
  | 3 => [26, 27, 28, 31, 32, 33, 34, 35]
  | 4 => [35, 36, 37, 40, 41, 42, 45, 46, 47, 48, 49, 52, 53, 56, 57, 60, 61, 64, 65, 68, 71, 72, 73]
  | 5 => [73, 76, 79]
  | 6 => [79, 80, 81]
  | _ => [81]
def zB_235 : Nat → List Instr
  | 0 => [.iload 0, .lookupswitch 5 #[(65, 1), (66, 2), (72, 3), (89, 4)]]
  | 1 => [.sipush 0, .ireturn]
  | 2 => [.sipush 1, .ireturn]
  | 3 => [.sipush 2, .ireturn]
  | 4 => [.sipush 3, .ireturn]
  | 5 => [.sipush (-9), .ireturn]
  | _ => []
def zP_235 : Nat → List Nat
  | 0 => [0, 1, 44]
  | 1 => [44, 45, 46]
  | 2 => [46, 47, 48]
  | 3 => [48, 49, 50]
  | 4 => [50, 51, 52]
  | 5 => [52, 54, 55]
  | _ => [55]
def zB_236 : Nat → List Instr
  | 0 => [.sipush 0, .istore 3]
  | 1 => [.iload 3, .sipush 4, .if_icmp .ge 2, .aload 0, .getfield 830, .iload 3, .sipush (-9), .iastore, .iinc 3 1, .goto 1]
  | 2 => [.sipush 0, .istore 3, .sipush (-9), .istore 4, .sipush 0, .istore 5, .sipush 0, .istore 6]
  | 3 => [.iload 6, .iload 2, .if_icmp .ge 15, .aload 0, .getfield 785, .iload 1, .iload 6, .iadd, .iaload, .istore 7, .iload 4, .sipush (-9), .if_icmp .ne 6, .iload 7, .invokestatic 235, .istore 4, .iload 4, .sipush (-9), .if_icmp .eq 4, .aload 0, .getfield 830, .iload 4, .iaload, .sipush (-9), .if_icmp .eq 5]
  | 4 => [.iload 6, .ireturn]
  | 5 => [.sipush 0, .istore 5, .goto 14]
  | 6 => [.iload 7, .sipush 48, .sipush 57, .invokestatic 150, .ifCond .eq 11, .iload 5, .sipush 3, .if_icmp .eq 7, .iload 5, .ifCond .le 8, .aload 0, .getfield 830, .iload 4, .iaload, .ifCond .ne 8]
  | 7 => [.iload 6, .ireturn]
  | 8 => [.aload 0, .getfield 830, .iload 4, .iload 5, .ifCond .ne 9, .sipush 0, .goto 10]
  | 9 => [.sipush 10, .aload 0, .getfield 830, .iload 4, .iaload, .imul]
  | 10 => [.iload 7, .iadd, .sipush 48, .isub, .iastore, .iinc 5 1, .goto 14]
  | 11 => [.iload 7, .sipush 59, .if_icmp .ne 12, .iload 5, .ifCond .eq 12, .iload 3, .sipush 3, .if_icmp .ne 13]
  | 12 => [.iload 6, .ireturn]
  | 13 => [.iinc 3 1, .sipush (-9), .istore 4]
  | 14 => [.iinc 6 1, .goto 3]
  | 15 => [.iload 2, .ifCond .eq 16, .iload 4, .sipush (-9), .if_icmp .eq 17, .iload 5, .ifCond .le 17]
  | 16 => [.sipush 1, .goto 18]
  | 17 => [.sipush 0]
  | 18 => [.istore 6, .iload 6, .ifCond .eq 19, .sipush (-9), .goto 20]
  | 19 => [.iload 2]
  | 20 => [.ireturn]
  | _ => []
def zP_236 : Nat → List Nat
  | 0 => [0, 1, 2]
  | 1 => [2, 3, 4, 7, 8, 11, 12, 14, 15, 18, 21]
  | 2 => [21, 22, 23, 25, 27, 28, 30, 31, 33]
  | 3 => [33, 35, 36, 39, 40, 43, 44, 46, 47, 48, 50, 52, 54, 57, 59, 62, 64, 66, 68, 71, 72, 75, 77, 78, 80, 83]
  | 4 => [83, 85, 86]
  | 5 => [86, 87, 89, 92]
  | 6 => [92, 94, 96, 98, 101, 104, 106, 107, 110, 112, 115, 116, 119, 121, 122, 125]
  | 7 => [125, 127, 128]
  | 8 => [128, 129, 132, 134, 136, 139, 140, 143]
  | 9 => [143, 145, 146, 149, 151, 152, 153]
  | 10 => [153, 155, 156, 158, 159, 160, 163, 166]
  | 11 => [166, 168, 170, 173, 175, 178, 179, 180, 183]
  | 12 => [183, 185, 186]
  | 13 => [186, 189, 191, 193]
  | 14 => [193, 196, 199]
  | 15 => [199, 200, 203, 205, 207, 210, 212, 215]
  | 16 => [215, 216, 219]
  | 17 => [219, 220]
  | 18 => [220, 222, 224, 227, 229, 232]
  | 19 => [232, 233]
  | 20 => [233, 234]
  | _ => [234]
def zB_237 : Nat → List Instr
  | 0 => [.sipush 0, .istore 1, .sipush 0, .istore 2]
  | 1 => [.iload 2, .sipush 4, .if_icmp .ge 4, .iload 1, .aload 0, .getfield 829, .iload 2, .iaload, .sipush (-9), .if_icmp .ne 2, .sipush 0, .goto 3]
  | 2 => [.sipush 1]
  | 3 => [.iadd, .istore 1, .iinc 2 1, .goto 1]
  | 4 => [.iload 1, .ireturn]
  | _ => []
def zP_237 : Nat → List Nat
  | 0 => [0, 1, 2, 3, 4]
  | 1 => [4, 5, 6, 9, 10, 11, 14, 15, 16, 18, 21, 22, 25]
  | 2 => [25, 26]
  | 3 => [26, 27, 28, 31, 34]
  | 4 => [34, 35, 36]
  | _ => [36]
def zB_238 : Nat → List Instr
  | 0 => [.aload 0, .sipush 0, .putfield 768, .iload 1, .invokestatic 174, .ifCond .ne 1, .sipush (-1), .ireturn]
  | 1 => [.iload 2, .invokestatic 175, .ifCond .ne 2, .sipush (-2), .ireturn]
  | 2 => [.aload 0, .iload 1, .iload 2, .iload 3, .iload 4, .invokevirtual 173, .istore 5, .iload 5, .ifCond .eq 3, .iload 5, .ireturn]
  | 3 => [.aload 0, .sipush 60, .iload 1, .imul, .iload 3, .iadd, .iload 4, .invokevirtual 236, .istore 6, .iload 6, .sipush (-9), .if_icmp .eq 4, .sipush (-100), .iload 6, .isub, .ireturn]
  | 4 => [.sipush 0, .istore 7]
  | 5 => [.iload 7, .sipush 4, .if_icmp .ge 6, .aload 0, .getfield 829, .iload 7, .aload 0, .getfield 830, .iload 7, .iaload, .iastore, .iinc 7 1, .goto 5]
  | 6 => [.aload 0, .invokevirtual 237, .ireturn]
  | _ => []
def zP_238 : Nat → List Nat
  | 0 => [0, 1, 2, 5, 6, 9, 12, 13, 14]
  | 1 => [14, 15, 18, 21, 23, 24]
  | 2 => [24, 25, 26, 27, 28, 30, 33, 35, 37, 40, 42, 43]
  | 3 => [43, 44, 46, 47, 48, 49, 50, 52, 55, 57, 59, 61, 64, 66, 68, 69, 70]
  | 4 => [70, 71, 73]
  | 5 => [73, 75, 76, 79, 80, 83, 85, 86, 89, 91, 92, 93, 96, 99]
  | 6 => [99, 100, 103, 104]
  | _ => [104]
def zB_239 : Nat → List Instr
  | 0 => [.iload 1, .sipush 0, .sipush 3, .invokestatic 150, .ifCond .eq 1, .aload 0, .getfield 829, .iload 1, .iaload, .goto 2]
  | 1 => [.sipush (-1)]
  | 2 => [.ireturn]
  | _ => []
def zP_239 : Nat → List Nat
  | 0 => [0, 1, 2, 3, 6, 9, 10, 13, 14, 15, 18]
  | 1 => [18, 19]
  | 2 => [19, 20]
  | _ => [20]
def zB_240 : Nat → List Instr
  | 0 => [.aload 0, .sipush 0, .putfield 768, .iload 1, .invokestatic 174, .ifCond .ne 1, .sipush (-1), .ireturn]
  | 1 => [.iload 2, .invokestatic 175, .ifCond .eq 2, .iload 3, .sipush 60, .if_icmp .le 3]
  | 2 => [.sipush (-2), .ireturn]
  | 3 => [.iload 3, .ifCond .ge 4, .aload 0, .sipush 4, .invokevirtual 148, .ireturn]
  | 4 => [.aload 0, .getfield 783, .iload 1, .iload 2, .iastore, .aload 0, .getfield 784, .iload 1, .iload 3, .iastore, .sipush 0, .istore 4]
  | 5 => [.iload 4, .sipush 60, .if_icmp .ge 6, .aload 0, .getfield 785, .sipush 60, .iload 1, .imul, .iload 4, .iadd, .sipush 0, .iastore, .iinc 4 1, .goto 5]
  | 6 => [.sipush 1, .ireturn]
  | _ => []
def zP_240 : Nat → List Nat
  | 0 => [0, 1, 2, 5, 6, 9, 12, 13, 14]
  | 1 => [14, 15, 18, 21, 22, 24, 27]
  | 2 => [27, 29, 30]
  | 3 => [30, 31, 34, 35, 36, 39, 40]
  | 4 => [40, 41, 44, 45, 46, 47, 48, 51, 52, 53, 54, 55, 57]
  | 5 => [57, 59, 61, 64, 65, 68, 70, 71, 72, 74, 75, 76, 77, 80, 83]
  | 6 => [83, 84, 85]
  | _ => [85]
def zB_241 : Nat → List Instr
  | 0 => [.iload 1, .invokestatic 174, .ifCond .ne 1, .sipush (-1), .ireturn]
  | 1 => [.aload 0, .getfield 783, .iload 1, .iaload, .sipush (-9), .if_icmp .ne 2, .sipush 0, .goto 3]
  | 2 => [.sipush 1]
  | 3 => [.istore 2, .aload 0, .getfield 783, .iload 1, .sipush (-9), .iastore, .iload 2, .ireturn]
  | _ => []
def zP_241 : Nat → List Nat
  | 0 => [0, 1, 4, 7, 8, 9]
  | 1 => [9, 10, 13, 14, 15, 17, 20, 21, 24]
  | 2 => [24, 25]
  | 3 => [25, 26, 27, 30, 31, 33, 34, 35, 36]
  | _ => [36]
def zB_242 : Nat → List Instr
  | 0 => [.aload 0, .sipush 0, .putfield 768, .iload 1, .invokestatic 174, .ifCond .ne 1, .sipush (-1), .ireturn]
  | 1 => [.aload 0, .getfield 783, .iload 1, .iaload, .sipush (-9), .if_icmp .ne 2, .aload 0, .sipush 1, .invokevirtual 148, .ireturn]
  | 2 => [.iload 2, .sipush 0, .aload 0, .getfield 784, .iload 1, .iaload, .sipush 1, .isub, .invokestatic 150, .ifCond .ne 3, .aload 0, .sipush 3, .invokevirtual 148, .ireturn]
  | 3 => [.aload 0, .getfield 785, .sipush 60, .iload 1, .imul, .iload 2, .iadd, .aload 0, .getfield 783, .iload 1, .iaload, .ifCond .ne 4, .iload 3, .i2b, .goto 6]
  | 4 => [.aload 0, .getfield 783, .iload 1, .iaload, .sipush 1, .if_icmp .ne 5, .iload 3, .i2s, .goto 6]
  | 5 => [.iload 3]
  | 6 => [.iastore, .sipush 1, .ireturn]
  | _ => []
def zP_242 : Nat → List Nat
  | 0 => [0, 1, 2, 5, 6, 9, 12, 13, 14]
  | 1 => [14, 15, 18, 19, 20, 22, 25, 26, 27, 30, 31]
  | 2 => [31, 32, 33, 34, 37, 38, 39, 40, 41, 44, 47, 48, 49, 52, 53]
  | 3 => [53, 54, 57, 59, 60, 61, 62, 63, 64, 67, 68, 69, 72, 73, 74, 77]
  | 4 => [77, 78, 81, 82, 83, 84, 87, 88, 89, 92]
  | 5 => [92, 93]
  | 6 => [93, 94, 95, 96]
  | _ => [96]
def zB_243 : Nat → List Instr
  | 0 => [.aload 0, .sipush 0, .putfield 768, .iload 1, .invokestatic 174, .ifCond .eq 1, .iload 3, .invokestatic 175, .ifCond .ne 2]
  | 1 => [.ldc2_w 5, .lreturn]
  | 2 => [.aload 0, .getfield 783, .iload 1, .iaload, .sipush (-9), .if_icmp .eq 3, .aload 0, .getfield 783, .iload 1, .iaload, .iload 3, .if_icmp .eq 3, .aload 0, .sipush 2, .invokevirtual 149, .lreturn]
  | 3 => [.aload 0, .getfield 783, .iload 1, .iaload, .sipush (-9), .if_icmp .ne 4, .aload 0, .sipush 1, .invokevirtual 149, .lreturn]
  | 4 => [.iload 2, .sipush 0, .aload 0, .getfield 784, .iload 1, .iaload, .sipush 1, .isub, .invokestatic 150, .ifCond .ne 5, .aload 0, .sipush 3, .invokevirtual 149, .lreturn]
  | 5 => [.aload 0, .getfield 785, .sipush 60, .iload 1, .imul, .iload 2, .iadd, .iaload, .i2l, .lreturn]
  | _ => []
def zP_243 : Nat → List Nat
  | 0 => [0, 1, 2, 5, 6, 9, 12, 13, 16, 19]
  | 1 => [19, 22, 23]
  | 2 => [23, 24, 27, 28, 29, 31, 34, 35, 38, 39, 40, 41, 44, 45, 46, 49, 50]
  | 3 => [50, 51, 54, 55, 56, 58, 61, 62, 63, 66, 67]
  | 4 => [67, 68, 69, 70, 73, 74, 75, 76, 77, 80, 83, 84, 85, 88, 89]
  | 5 => [89, 90, 93, 95, 96, 97, 98, 99, 100, 101, 102]
  | _ => [102]
def zB_244 : Nat → List Instr
  | 0 => [.aload 0, .sipush 31, .aload 0, .getfield 769, .imul, .iload 1, .iadd, .putfield 769, .return_]
  | _ => []
def zP_244 : Nat → List Nat
  | 0 => [0, 1, 3, 4, 7, 8, 9, 10, 13, 14]
  | _ => [14]
def zB_245 : Nat → List Instr
  | 0 => [.aload 0, .iload 1, .invokevirtual 152, .ifCond .ne 1, .sipush (-1), .ireturn]
  | 1 => [.aload 0, .getfield 771, .iload 1, .iaload, .lookupswitch 4 #[(1, 2), (2, 3)]]
  | 2 => [.aload 0, .sipush 2, .invokevirtual 244, .aload 0, .sipush 1, .invokevirtual 244, .aload 0, .getfield 772, .iload 1, .iaload, .aload 0, .getfield 822, .iload 1, .iaload, .iadd, .ireturn]
  | 3 => [.aload 0, .sipush 3, .invokevirtual 244, .aload 0, .sipush 2, .invokevirtual 244, .aload 0, .sipush 1, .invokevirtual 244, .aload 0, .sipush 1, .invokevirtual 244, .sipush 2, .aload 0, .getfield 772, .iload 1, .iaload, .imul, .aload 0, .getfield 822, .iload 1, .iaload, .iadd, .ireturn]
  | 4 => [.aload 0, .sipush 1, .invokevirtual 244, .aload 0, .getfield 772, .iload 1, .iaload, .ireturn]
  | _ => []
def zP_245 : Nat → List Nat
  | 0 => [0, 1, 2, 5, 8, 9, 10]
  | 1 => [10, 11, 14, 15, 16, 44]
  | 2 => [44, 45, 46, 49, 50, 51, 54, 55, 58, 59, 60, 61, 64, 65, 66, 67, 68]
  | 3 => [68, 69, 70, 73, 74, 75, 78, 79, 80, 83, 84, 85, 88, 89, 90, 93, 94, 95, 96, 97, 100, 101, 102, 103, 104]
  | 4 => [104, 105, 106, 109, 110, 113, 114, 115, 116]
  | _ => [116]
def zB_246 : Nat → List Instr
  | 0 => [.aload 0, .iload 1, .invokevirtual 152, .ifCond .ne 1, .sipush (-1), .ireturn]
  | 1 => [.aload 0, .aload 0, .getfield 771, .iload 1, .iaload, .sipush 2, .if_icmp .ne 2, .sipush 5, .goto 3]
  | 2 => [.sipush 4]
  | 3 => [.invokevirtual 244, .aload 0, .getfield 771, .iload 1, .iaload, .sipush 2, .if_icmp .ne 4, .sipush 70, .goto 5]
  | 4 => [.iload 1]
  | 5 => [.ireturn]
  | _ => []
def zP_246 : Nat → List Nat
  | 0 => [0, 1, 2, 5, 8, 9, 10]
  | 1 => [10, 11, 12, 15, 16, 17, 18, 21, 22, 25]
  | 2 => [25, 26]
  | 3 => [26, 29, 30, 33, 34, 35, 36, 39, 41, 44]
  | 4 => [44, 45]
  | 5 => [45, 46]
  | _ => [46]
def zB_247 : Nat → List Instr
  | 0 => [.aload 0, .sipush 0, .putfield 768, .aload 0, .iload 1, .invokevirtual 152, .ifCond .ne 1, .sipush (-1), .ireturn]
  | 1 => [.iload 2, .sipush 0, .sipush 2, .invokestatic 150, .ifCond .ne 2, .sipush (-2), .ireturn]
  | 2 => [.aload 0, .getfield 771, .iload 1, .iaload, .iload 2, .if_icmp .lt 3, .sipush 1, .goto 4]
  | 3 => [.aload 0, .sipush 2, .invokevirtual 148]
  | 4 => [.ireturn]
  | _ => []
def zP_247 : Nat → List Nat
  | 0 => [0, 1, 2, 5, 6, 7, 10, 13, 14, 15]
  | 1 => [15, 16, 17, 18, 21, 24, 26, 27]
  | 2 => [27, 28, 31, 32, 33, 34, 37, 38, 41]
  | 3 => [41, 42, 43, 46]
  | 4 => [46, 47]
  | _ => [47]
def zB_248 : Nat → List Instr
  | 0 => [.aload 0, .getfield 769, .ireturn]
  | _ => []
def zP_248 : Nat → List Nat
  | 0 => [0, 1, 4, 5]
  | _ => [5]
def zB_249 : Nat → List Instr
  | 0 => [.aload 0, .getfield 768, .ireturn]
  | _ => []
def zP_249 : Nat → List Nat
  | 0 => [0, 1, 4, 5]
  | _ => [5]
def zB_250 : Nat → List Instr
  | 0 => [.iload 1, .tableswitch 9 0 7 #[1, 2, 3, 4, 5, 6, 7, 8]]
  | 1 => [.aload 0, .getfield 770, .ireturn]
  | 2 => [.aload 0, .getfield 774, .ireturn]
  | 3 => [.aload 0, .getfield 787, .ireturn]
  | 4 => [.aload 0, .getfield 793, .ireturn]
  | 5 => [.aload 0, .getfield 804, .ireturn]
  | 6 => [.aload 0, .getfield 813, .ireturn]
  | 7 => [.aload 0, .getfield 824, .ireturn]
  | 8 => [.aload 0, .invokevirtual 237, .ireturn]
  | 9 => [.sipush (-2), .ireturn]
  | _ => []
def zP_250 : Nat → List Nat
  | 0 => [0, 1, 48]
  | 1 => [48, 49, 52, 53]
  | 2 => [53, 54, 57, 58]
  | 3 => [58, 59, 62, 63]
  | 4 => [63, 64, 67, 68]
  | 5 => [68, 69, 72, 73]
  | 6 => [73, 74, 77, 78]
  | 7 => [78, 79, 82, 83]
  | 8 => [83, 84, 87, 88]
  | 9 => [88, 90, 91]
  | _ => [91]
def zB_251 : Nat → List Instr
  | 0 => [.iload 0, .iload 0, .sipush 1, .iushr, .sipush 1431655765, .iand, .isub, .istore 0, .iload 0, .sipush 858993459, .iand, .iload 0, .sipush 2, .iushr, .sipush 858993459, .iand, .iadd, .istore 0, .iload 0, .iload 0, .sipush 4, .iushr, .iadd, .sipush 252645135, .iand, .istore 0, .iload 0, .iload 0, .sipush 8, .iushr, .iadd, .istore 0, .iload 0, .iload 0, .sipush 16, .iushr, .iadd, .istore 0, .iload 0, .sipush 63, .iand, .ireturn]
  | _ => []
def zP_251 : Nat → List Nat
  | 0 => [0, 1, 2, 3, 4, 7, 8, 9, 10, 11, 14, 15, 16, 17, 18, 21, 22, 23, 24, 25, 26, 27, 28, 29, 32, 33, 34, 35, 36, 38, 39, 40, 41, 42, 43, 45, 46, 47, 48, 49, 51, 52, 53]
  | _ => [53]
def zB_252 : Nat → List Instr
  | 0 => [.sipush 0, .istore 3, .aload 0, .arraylength, .istore 4]
  | 1 => [.iload 3, .iload 4, .if_icmp .ge 2, .aload 0, .iload 3, .lload 1, .lastore, .iinc 3 1, .goto 1]
  | 2 => [.return_]
  | _ => []
def zP_252 : Nat → List Nat
  | 0 => [0, 1, 2, 3, 4, 6]
  | 1 => [6, 7, 9, 12, 13, 14, 15, 16, 19, 22]
  | 2 => [22, 23]
  | _ => [23]
def zB_253 : Nat → List Instr
  | 0 => [.sipush 0, .istore 2, .aload 0, .arraylength, .istore 3]
  | 1 => [.iload 2, .iload 3, .if_icmp .ge 2, .aload 0, .iload 2, .iload 1, .iastore, .iinc 2 1, .goto 1]
  | 2 => [.return_]
  | _ => []
def zP_253 : Nat → List Nat
  | 0 => [0, 1, 2, 3, 4, 5]
  | 1 => [5, 6, 7, 10, 11, 12, 13, 14, 17, 20]
  | 2 => [20, 21]
  | _ => [21]
def zB_254 : Nat → List Instr
  | 0 => [.iload 0, .iload 1, .if_icmp .lt 1, .iload 0, .goto 2]
  | 1 => [.iload 1]
  | 2 => [.ireturn]
  | _ => []
def zP_254 : Nat → List Nat
  | 0 => [0, 1, 2, 5, 6, 9]
  | 1 => [9, 10]
  | 2 => [10, 11]
  | _ => [11]
def zB_255 : Nat → List Instr
  | 0 => [.iload 0, .iload 1, .if_icmp .gt 1, .iload 0, .goto 2]
  | 1 => [.iload 1]
  | 2 => [.ireturn]
  | _ => []
def zP_255 : Nat → List Nat
  | 0 => [0, 1, 2, 5, 6, 9]
  | 1 => [9, 10]
  | 2 => [10, 11]
  | _ => [11]
def zB_256 : Nat → List Instr
  | 0 => [.sipush 0, .istore 3]
  | 1 => [.iload 3, .aload 0, .arraylength, .sipush 8, .isub, .if_icmp .gt 56, .aload 0, .iload 3, .iaload, .sipush 63, .iand, .tableswitch 55 0 48 #[2, 3, 4, 5, 10, 11, 12, 13, 14, 15, 16, 17, 18, 19, 20, 21, 22, 23, 24, 25, 26, 27, 28, 29, 30, 31, 32, 33, 34, 35, 36, 37, 38, 39, 40, 41, 42, 43, 44, 45, 46, 47, 48, 49, 50, 51, 52, 53, 54]]
  | 2 => [.aload 1, .aload 0, .iload 3, .sipush 1, .iadd, .iaload, .aload 0, .iload 3, .sipush 2, .iadd, .iaload, .aload 0, .iload 3, .sipush 3, .iadd, .iaload, .invokevirtual 84, .aload 2, .aload 0, .iload 3, .sipush 1, .iadd, .iaload, .aload 0, .iload 3, .sipush 2, .iadd, .iaload, .aload 0, .iload 3, .sipush 3, .iadd, .iaload, .invokevirtual 154, .if_icmp .eq 55, .sipush 0, .ireturn]
  | 3 => [.aload 1, .aload 0, .iload 3, .sipush 1, .iadd, .iaload, .invokevirtual 85, .aload 2, .aload 0, .iload 3, .sipush 1, .iadd, .iaload, .invokevirtual 155, .if_icmp .eq 55, .sipush 0, .ireturn]
  | 4 => [.aload 1, .aload 0, .iload 3, .sipush 1, .iadd, .iaload, .aload 0, .iload 3, .sipush 2, .iadd, .iaload, .aload 0, .iload 3, .sipush 3, .iadd, .iaload, .invokevirtual 86, .aload 2, .aload 0, .iload 3, .sipush 1, .iadd, .iaload, .aload 0, .iload 3, .sipush 2, .iadd, .iaload, .aload 0, .iload 3, .sipush 3, .iadd, .iaload, .invokevirtual 156, .if_icmp .eq 55, .sipush 0, .ireturn]
  | 5 => [.aload 1, .aload 0, .iload 3, .sipush 1, .iadd, .iaload, .aload 0, .iload 3, .sipush 2, .iadd, .iaload, .aload 0, .iload 3, .sipush 3, .iadd, .iaload, .ifCond .eq 6, .sipush 1, .goto 7]
  | 6 => [.sipush 0]
  | 7 => [.invokevirtual 87, .aload 2, .aload 0, .iload 3, .sipush 1, .iadd, .iaload, .aload 0, .iload 3, .sipush 2, .iadd, .iaload, .aload 0, .iload 3, .sipush 3, .iadd, .iaload, .ifCond .eq 8, .sipush 1, .goto 9]
  | 8 => [.sipush 0]
  | 9 => [.invokevirtual 157, .if_icmp .eq 55, .sipush 0, .ireturn]
  | 10 => [.aload 1, .aload 0, .iload 3, .sipush 1, .iadd, .iaload, .aload 0, .iload 3, .sipush 2, .iadd, .iaload, .invokevirtual 88, .aload 2, .aload 0, .iload 3, .sipush 1, .iadd, .iaload, .aload 0, .iload 3, .sipush 2, .iadd, .iaload, .invokevirtual 160, .if_icmp .eq 55, .sipush 0, .ireturn]
  | 11 => [.aload 1, .aload 0, .iload 3, .sipush 1, .iadd, .iaload, .aload 0, .iload 3, .sipush 2, .iadd, .iaload, .invokevirtual 89, .aload 2, .aload 0, .iload 3, .sipush 1, .iadd, .iaload, .aload 0, .iload 3, .sipush 2, .iadd, .iaload, .invokevirtual 162, .if_icmp .eq 55, .sipush 0, .ireturn]
  | 12 => [.aload 1, .aload 0, .iload 3, .sipush 1, .iadd, .iaload, .aload 0, .iload 3, .sipush 2, .iadd, .iaload, .invokevirtual 90, .aload 2, .aload 0, .iload 3, .sipush 1, .iadd, .iaload, .aload 0, .iload 3, .sipush 2, .iadd, .iaload, .invokevirtual 163, .if_icmp .eq 55, .sipush 0, .ireturn]
  | 13 => [.aload 1, .invokevirtual 91, .aload 2, .invokevirtual 166, .if_icmp .eq 55, .sipush 0, .ireturn]
  | 14 => [.aload 1, .aload 0, .iload 3, .sipush 1, .iadd, .iaload, .aload 0, .iload 3, .sipush 2, .iadd, .iaload, .invokevirtual 92, .aload 2, .aload 0, .iload 3, .sipush 1, .iadd, .iaload, .aload 0, .iload 3, .sipush 2, .iadd, .iaload, .invokevirtual 172, .if_icmp .eq 55, .sipush 0, .ireturn]
  | 15 => [.aload 1, .aload 0, .iload 3, .sipush 1, .iadd, .iaload, .aload 0, .iload 3, .sipush 2, .iadd, .iaload, .aload 0, .iload 3, .sipush 3, .iadd, .iaload, .invokevirtual 93, .aload 2, .aload 0, .iload 3, .sipush 1, .iadd, .iaload, .aload 0, .iload 3, .sipush 2, .iadd, .iaload, .aload 0, .iload 3, .sipush 3, .iadd, .iaload, .invokevirtual 182, .if_icmp .eq 55, .sipush 0, .ireturn]
  | 16 => [.aload 1, .aload 0, .iload 3, .sipush 1, .iadd, .iaload, .aload 0, .iload 3, .sipush 2, .iadd, .iaload, .aload 0, .iload 3, .sipush 3, .iadd, .iaload, .aload 0, .iload 3, .sipush 4, .iadd, .iaload, .invokevirtual 94, .aload 2, .aload 0, .iload 3, .sipush 1, .iadd, .iaload, .aload 0, .iload 3, .sipush 2, .iadd, .iaload, .aload 0, .iload 3, .sipush 3, .iadd, .iaload, .aload 0, .iload 3, .sipush 4, .iadd, .iaload, .invokevirtual 183, .if_icmp .eq 55, .sipush 0, .ireturn]
  | 17 => [.aload 1, .aload 0, .iload 3, .sipush 1, .iadd, .iaload, .aload 0, .iload 3, .sipush 2, .iadd, .iaload, .aload 0, .iload 3, .sipush 3, .iadd, .iaload, .aload 0, .iload 3, .sipush 4, .iadd, .iaload, .invokevirtual 95, .aload 2, .aload 0, .iload 3, .sipush 1, .iadd, .iaload, .aload 0, .iload 3, .sipush 2, .iadd, .iaload, .aload 0, .iload 3, .sipush 3, .iadd, .iaload, .aload 0, .iload 3, .sipush 4, .iadd, .iaload, .invokevirtual 186, .if_icmp .eq 55, .sipush 0, .ireturn]
  | 18 => [.aload 1, .aload 0, .iload 3, .sipush 1, .iadd, .iaload, .aload 0, .iload 3, .sipush 2, .iadd, .iaload, .invokevirtual 96, .aload 2, .aload 0, .iload 3, .sipush 1, .iadd, .iaload, .aload 0, .iload 3, .sipush 2, .iadd, .iaload, .invokevirtual 187, .if_icmp .eq 55, .sipush 0, .ireturn]
  | 19 => [.aload 1, .aload 0, .iload 3, .sipush 1, .iadd, .iaload, .aload 0, .iload 3, .sipush 2, .iadd, .iaload, .invokevirtual 97, .aload 2, .aload 0, .iload 3, .sipush 1, .iadd, .iaload, .aload 0, .iload 3, .sipush 2, .iadd, .iaload, .invokevirtual 188, .if_icmp .eq 55, .sipush 0, .ireturn]
  | 20 => [.aload 1, .aload 0, .iload 3, .sipush 1, .iadd, .iaload, .aload 0, .iload 3, .sipush 2, .iadd, .iaload, .invokevirtual 98, .aload 2, .aload 0, .iload 3, .sipush 1, .iadd, .iaload, .aload 0, .iload 3, .sipush 2, .iadd, .iaload, .invokevirtual 191, .if_icmp .eq 55, .sipush 0, .ireturn]
  | 21 => [.aload 1, .aload 0, .iload 3, .sipush 1, .iadd, .iaload, .aload 0, .iload 3, .sipush 2, .iadd, .iaload, .aload 0, .iload 3, .sipush 3, .iadd, .iaload, .invokevirtual 99, .aload 2, .aload 0, .iload 3, .sipush 1, .iadd, .iaload, .aload 0, .iload 3, .sipush 2, .iadd, .iaload, .aload 0, .iload 3, .sipush 3, .iadd, .iaload, .invokevirtual 193, .if_icmp .eq 55, .sipush 0, .ireturn]
  | 22 => [.aload 1, .aload 0, .iload 3, .sipush 1, .iadd, .iaload, .aload 0, .iload 3, .sipush 2, .iadd, .iaload, .aload 0, .iload 3, .sipush 3, .iadd, .iaload, .invokevirtual 100, .aload 2, .aload 0, .iload 3, .sipush 1, .iadd, .iaload, .aload 0, .iload 3, .sipush 2, .iadd, .iaload, .aload 0, .iload 3, .sipush 3, .iadd, .iaload, .invokevirtual 194, .if_icmp .eq 55, .sipush 0, .ireturn]
  | 23 => [.aload 1, .aload 0, .iload 3, .sipush 1, .iadd, .iaload, .aload 0, .iload 3, .sipush 2, .iadd, .iaload, .aload 0, .iload 3, .sipush 3, .iadd, .iaload, .invokevirtual 101, .aload 2, .aload 0, .iload 3, .sipush 1, .iadd, .iaload, .aload 0, .iload 3, .sipush 2, .iadd, .iaload, .aload 0, .iload 3, .sipush 3, .iadd, .iaload, .invokevirtual 196, .if_icmp .eq 55, .sipush 0, .ireturn]
  | 24 => [.aload 1, .aload 0, .iload 3, .sipush 1, .iadd, .iaload, .aload 0, .iload 3, .sipush 2, .iadd, .iaload, .invokevirtual 102, .aload 2, .aload 0, .iload 3, .sipush 1, .iadd, .iaload, .aload 0, .iload 3, .sipush 2, .iadd, .iaload, .invokevirtual 197, .if_icmp .eq 55, .sipush 0, .ireturn]
  | 25 => [.aload 1, .aload 0, .iload 3, .sipush 1, .iadd, .iaload, .invokevirtual 103, .aload 2, .aload 0, .iload 3, .sipush 1, .iadd, .iaload, .invokevirtual 198, .if_icmp .eq 55, .sipush 0, .ireturn]
  | 26 => [.aload 1, .aload 0, .iload 3, .sipush 1, .iadd, .iaload, .aload 0, .iload 3, .sipush 2, .iadd, .iaload, .aload 0, .iload 3, .sipush 3, .iadd, .iaload, .aload 0, .iload 3, .sipush 4, .iadd, .iaload, .aload 0, .iload 3, .sipush 5, .iadd, .iaload, .invokevirtual 104, .aload 2, .aload 0, .iload 3, .sipush 1, .iadd, .iaload, .aload 0, .iload 3, .sipush 2, .iadd, .iaload, .aload 0, .iload 3, .sipush 3, .iadd, .iaload, .aload 0, .iload 3, .sipush 4, .iadd, .iaload, .aload 0, .iload 3, .sipush 5, .iadd, .iaload, .invokevirtual 201, .if_icmp .eq 55, .sipush 0, .ireturn]
  | 27 => [.aload 1, .aload 0, .iload 3, .sipush 1, .iadd, .iaload, .aload 0, .iload 3, .sipush 2, .iadd, .iaload, .aload 0, .iload 3, .sipush 3, .iadd, .iaload, .aload 0, .iload 3, .sipush 4, .iadd, .iaload, .invokevirtual 105, .aload 2, .aload 0, .iload 3, .sipush 1, .iadd, .iaload, .aload 0, .iload 3, .sipush 2, .iadd, .iaload, .aload 0, .iload 3, .sipush 3, .iadd, .iaload, .aload 0, .iload 3, .sipush 4, .iadd, .iaload, .invokevirtual 203, .if_icmp .eq 55, .sipush 0, .ireturn]
  | 28 => [.aload 1, .aload 0, .iload 3, .sipush 1, .iadd, .iaload, .aload 0, .iload 3, .sipush 2, .iadd, .iaload, .invokevirtual 106, .aload 2, .aload 0, .iload 3, .sipush 1, .iadd, .iaload, .aload 0, .iload 3, .sipush 2, .iadd, .iaload, .invokevirtual 210, .if_icmp .eq 55, .sipush 0, .ireturn]
  | 29 => [.aload 1, .aload 0, .iload 3, .sipush 1, .iadd, .iaload, .aload 0, .iload 3, .sipush 2, .iadd, .iaload, .aload 0, .iload 3, .sipush 3, .iadd, .iaload, .invokevirtual 107, .aload 2, .aload 0, .iload 3, .sipush 1, .iadd, .iaload, .aload 0, .iload 3, .sipush 2, .iadd, .iaload, .aload 0, .iload 3, .sipush 3, .iadd, .iaload, .invokevirtual 211, .if_icmp .eq 55, .sipush 0, .ireturn]
  | 30 => [.aload 1, .aload 0, .iload 3, .sipush 1, .iadd, .iaload, .aload 0, .iload 3, .sipush 2, .iadd, .iaload, .aload 0, .iload 3, .sipush 3, .iadd, .iaload, .invokevirtual 108, .aload 2, .aload 0, .iload 3, .sipush 1, .iadd, .iaload, .aload 0, .iload 3, .sipush 2, .iadd, .iaload, .aload 0, .iload 3, .sipush 3, .iadd, .iaload, .invokevirtual 214, .if_icmp .eq 55, .sipush 0, .ireturn]
  | 31 => [.aload 1, .aload 0, .iload 3, .sipush 1, .iadd, .iaload, .aload 0, .iload 3, .sipush 2, .iadd, .iaload, .aload 0, .iload 3, .sipush 3, .iadd, .iaload, .invokevirtual 109, .aload 2, .aload 0, .iload 3, .sipush 1, .iadd, .iaload, .aload 0, .iload 3, .sipush 2, .iadd, .iaload, .aload 0, .iload 3, .sipush 3, .iadd, .iaload, .invokevirtual 215, .if_icmp .eq 55, .sipush 0, .ireturn]
  | 32 => [.aload 1, .aload 0, .iload 3, .sipush 1, .iadd, .iaload, .aload 0, .iload 3, .sipush 2, .iadd, .iaload, .invokevirtual 110, .aload 2, .aload 0, .iload 3, .sipush 1, .iadd, .iaload, .aload 0, .iload 3, .sipush 2, .iadd, .iaload, .invokevirtual 216, .if_icmp .eq 55, .sipush 0, .ireturn]
  | 33 => [.aload 1, .aload 0, .iload 3, .sipush 1, .iadd, .iaload, .invokevirtual 111, .aload 2, .aload 0, .iload 3, .sipush 1, .iadd, .iaload, .invokevirtual 221, .if_icmp .eq 55, .sipush 0, .ireturn]
  | 34 => [.aload 1, .aload 0, .iload 3, .sipush 1, .iadd, .iaload, .invokevirtual 112, .aload 2, .aload 0, .iload 3, .sipush 1, .iadd, .iaload, .invokevirtual 222, .if_icmp .eq 55, .sipush 0, .ireturn]
  | 35 => [.aload 1, .aload 0, .iload 3, .sipush 1, .iadd, .iaload, .invokevirtual 113, .aload 2, .aload 0, .iload 3, .sipush 1, .iadd, .iaload, .invokevirtual 223, .if_icmp .eq 55, .sipush 0, .ireturn]
  | 36 => [.aload 1, .invokevirtual 114, .aload 2, .invokevirtual 224, .if_icmp .eq 55, .sipush 0, .ireturn]
  | 37 => [.aload 1, .aload 0, .iload 3, .sipush 1, .iadd, .iaload, .aload 0, .iload 3, .sipush 2, .iadd, .iaload, .aload 0, .iload 3, .sipush 3, .iadd, .iaload, .aload 0, .iload 3, .sipush 4, .iadd, .iaload, .aload 0, .iload 3, .sipush 5, .iadd, .iaload, .aload 0, .iload 3, .sipush 6, .iadd, .iaload, .aload 0, .iload 3, .sipush 7, .iadd, .iaload, .invokevirtual 115, .aload 2, .aload 0, .iload 3, .sipush 1, .iadd, .iaload, .aload 0, .iload 3, .sipush 2, .iadd, .iaload, .aload 0, .iload 3, .sipush 3, .iadd, .iaload, .aload 0, .iload 3, .sipush 4, .iadd, .iaload, .aload 0, .iload 3, .sipush 5, .iadd, .iaload, .aload 0, .iload 3, .sipush 6, .iadd, .iaload, .aload 0, .iload 3, .sipush 7, .iadd, .iaload, .invokevirtual 225, .if_icmp .eq 55, .sipush 0, .ireturn]
  | 38 => [.aload 1, .aload 0, .iload 3, .sipush 1, .iadd, .iaload, .aload 0, .iload 3, .sipush 2, .iadd, .iaload, .aload 0, .iload 3, .sipush 3, .iadd, .iaload, .aload 0, .iload 3, .sipush 4, .iadd, .iaload, .aload 0, .iload 3, .sipush 5, .iadd, .iaload, .invokevirtual 116, .aload 2, .aload 0, .iload 3, .sipush 1, .iadd, .iaload, .aload 0, .iload 3, .sipush 2, .iadd, .iaload, .aload 0, .iload 3, .sipush 3, .iadd, .iaload, .aload 0, .iload 3, .sipush 4, .iadd, .iaload, .aload 0, .iload 3, .sipush 5, .iadd, .iaload, .invokevirtual 227, .if_icmp .eq 55, .sipush 0, .ireturn]
  | 39 => [.aload 1, .aload 0, .iload 3, .sipush 1, .iadd, .iaload, .aload 0, .iload 3, .sipush 2, .iadd, .iaload, .aload 0, .iload 3, .sipush 3, .iadd, .iaload, .aload 0, .iload 3, .sipush 4, .iadd, .iaload, .aload 0, .iload 3, .sipush 5, .iadd, .iaload, .invokevirtual 117, .aload 2, .aload 0, .iload 3, .sipush 1, .iadd, .iaload, .aload 0, .iload 3, .sipush 2, .iadd, .iaload, .aload 0, .iload 3, .sipush 3, .iadd, .iaload, .aload 0, .iload 3, .sipush 4, .iadd, .iaload, .aload 0, .iload 3, .sipush 5, .iadd, .iaload, .invokevirtual 228, .if_icmp .eq 55, .sipush 0, .ireturn]
  | 40 => [.aload 1, .aload 0, .iload 3, .sipush 1, .iadd, .iaload, .aload 0, .iload 3, .sipush 2, .iadd, .iaload, .aload 0, .iload 3, .sipush 3, .iadd, .iaload, .invokevirtual 118, .aload 2, .aload 0, .iload 3, .sipush 1, .iadd, .iaload, .aload 0, .iload 3, .sipush 2, .iadd, .iaload, .aload 0, .iload 3, .sipush 3, .iadd, .iaload, .invokevirtual 232, .lcmp, .ifCond .eq 55, .sipush 0, .ireturn]
  | 41 => [.aload 1, .aload 0, .iload 3, .sipush 1, .iadd, .iaload, .aload 0, .iload 3, .sipush 2, .iadd, .iaload, .invokevirtual 119, .aload 2, .aload 0, .iload 3, .sipush 1, .iadd, .iaload, .aload 0, .iload 3, .sipush 2, .iadd, .iaload, .invokevirtual 233, .lcmp, .ifCond .eq 55, .sipush 0, .ireturn]
  | 42 => [.aload 1, .aload 0, .iload 3, .sipush 1, .iadd, .iaload, .aload 0, .iload 3, .sipush 2, .iadd, .iaload, .invokevirtual 120, .aload 2, .aload 0, .iload 3, .sipush 1, .iadd, .iaload, .aload 0, .iload 3, .sipush 2, .iadd, .iaload, .invokevirtual 234, .if_icmp .eq 55, .sipush 0, .ireturn]
  | 43 => [.aload 1, .aload 0, .iload 3, .sipush 1, .iadd, .iaload, .aload 0, .iload 3, .sipush 2, .iadd, .iaload, .aload 0, .iload 3, .sipush 3, .iadd, .iaload, .aload 0, .iload 3, .sipush 4, .iadd, .iaload, .invokevirtual 121, .aload 2, .aload 0, .iload 3, .sipush 1, .iadd, .iaload, .aload 0, .iload 3, .sipush 2, .iadd, .iaload, .aload 0, .iload 3, .sipush 3, .iadd, .iaload, .aload 0, .iload 3, .sipush 4, .iadd, .iaload, .invokevirtual 238, .if_icmp .eq 55, .sipush 0, .ireturn]
  | 44 => [.aload 1, .aload 0, .iload 3, .sipush 1, .iadd, .iaload, .invokevirtual 122, .aload 2, .aload 0, .iload 3, .sipush 1, .iadd, .iaload, .invokevirtual 239, .if_icmp .eq 55, .sipush 0, .ireturn]
  | 45 => [.aload 1, .aload 0, .iload 3, .sipush 1, .iadd, .iaload, .aload 0, .iload 3, .sipush 2, .iadd, .iaload, .aload 0, .iload 3, .sipush 3, .iadd, .iaload, .invokevirtual 123, .aload 2, .aload 0, .iload 3, .sipush 1, .iadd, .iaload, .aload 0, .iload 3, .sipush 2, .iadd, .iaload, .aload 0, .iload 3, .sipush 3, .iadd, .iaload, .invokevirtual 240, .if_icmp .eq 55, .sipush 0, .ireturn]
  | 46 => [.aload 1, .aload 0, .iload 3, .sipush 1, .iadd, .iaload, .invokevirtual 124, .aload 2, .aload 0, .iload 3, .sipush 1, .iadd, .iaload, .invokevirtual 241, .if_icmp .eq 55, .sipush 0, .ireturn]
  | 47 => [.aload 1, .aload 0, .iload 3, .sipush 1, .iadd, .iaload, .aload 0, .iload 3, .sipush 2, .iadd, .iaload, .aload 0, .iload 3, .sipush 3, .iadd, .iaload, .invokevirtual 125, .aload 2, .aload 0, .iload 3, .sipush 1, .iadd, .iaload, .aload 0, .iload 3, .sipush 2, .iadd, .iaload, .aload 0, .iload 3, .sipush 3, .iadd, .iaload, .invokevirtual 242, .if_icmp .eq 55, .sipush 0, .ireturn]
  | 48 => [.aload 1, .aload 0, .iload 3, .sipush 1, .iadd, .iaload, .aload 0, .iload 3, .sipush 2, .iadd, .iaload, .aload 0, .iload 3, .sipush 3, .iadd, .iaload, .invokevirtual 126, .aload 2, .aload 0, .iload 3, .sipush 1, .iadd, .iaload, .aload 0, .iload 3, .sipush 2, .iadd, .iaload, .aload 0, .iload 3, .sipush 3, .iadd, .iaload, .invokevirtual 243, .lcmp, .ifCond .eq 55, .sipush 0, .ireturn]
  | 49 => [.aload 1, .aload 0, .iload 3, .sipush 1, .iadd, .iaload, .invokevirtual 127, .aload 2, .aload 0, .iload 3, .sipush 1, .iadd, .iaload, .invokevirtual 245, .if_icmp .eq 55, .sipush 0, .ireturn]
  | 50 => [.aload 1, .aload 0, .iload 3, .sipush 1, .iadd, .iaload, .invokevirtual 128, .aload 2, .aload 0, .iload 3, .sipush 1, .iadd, .iaload, .invokevirtual 246, .if_icmp .eq 55, .sipush 0, .ireturn]
  | 51 => [.aload 1, .aload 0, .iload 3, .sipush 1, .iadd, .iaload, .aload 0, .iload 3, .sipush 2, .iadd, .iaload, .invokevirtual 129, .aload 2, .aload 0, .iload 3, .sipush 1, .iadd, .iaload, .aload 0, .iload 3, .sipush 2, .iadd, .iaload, .invokevirtual 247, .if_icmp .eq 55, .sipush 0, .ireturn]
  | 52 => [.aload 1, .invokevirtual 130, .aload 2, .invokevirtual 248, .if_icmp .eq 55, .sipush 0, .ireturn]
  | 53 => [.aload 1, .invokevirtual 131, .aload 2, .invokevirtual 249, .if_icmp .eq 55, .sipush 0, .ireturn]
  | 54 => [.aload 1, .aload 0, .iload 3, .sipush 1, .iadd, .iaload, .invokevirtual 132, .aload 2, .aload 0, .iload 3, .sipush 1, .iadd, .iaload, .invokevirtual 250, .if_icmp .eq 55, .sipush 0, .ireturn]
  | 55 => [.iinc 3 8, .goto 1]
  | 56 => [.sipush 1, .ireturn]
  | _ => []
def zP_256 : Nat → List Nat
  | 0 => [16, 17, 18]
  | 1 => [18, 19, 20, 21, 23, 24, 27, 28, 29, 30, 32, 33, 244]
  | 2 => [244, 245, 246, 247, 248, 249, 250, 251, 252, 253, 254, 255, 256, 257, 258, 259, 260, 263, 264, 265, 266, 267, 268, 269, 270, 271, 272, 273, 274, 275, 276, 277, 278, 279, 282, 285, 286, 287]
  | 3 => [287, 288, 289, 290, 291, 292, 293, 296, 297, 298, 299, 300, 301, 302, 305, 308, 309, 310]
  | 4 => [310, 311, 312, 313, 314, 315, 316, 317, 318, 319, 320, 321, 322, 323, 324, 325, 326, 329, 330, 331, 332, 333, 334, 335, 336, 337, 338, 339, 340, 341, 342, 343, 344, 345, 348, 351, 352, 353]
  | 5 => [353, 354, 355, 356, 357, 358, 359, 360, 361, 362, 363, 364, 365, 366, 367, 368, 369, 372, 373, 376]
  | 6 => [376, 377]
  | 7 => [377, 380, 381, 382, 383, 384, 385, 386, 387, 388, 389, 390, 391, 392, 393, 394, 395, 396, 399, 400, 403]
  | 8 => [403, 404]
  | 9 => [404, 407, 410, 411, 412]
  | 10 => [412, 413, 414, 415, 416, 417, 418, 419, 420, 421, 422, 423, 426, 427, 428, 429, 430, 431, 432, 433, 434, 435, 436, 437, 440, 443, 444, 445]
  | 11 => [445, 446, 447, 448, 449, 450, 451, 452, 453, 454, 455, 456, 459, 460, 461, 462, 463, 464, 465, 466, 467, 468, 469, 470, 473, 476, 477, 478]
  | 12 => [478, 479, 480, 481, 482, 483, 484, 485, 486, 487, 488, 489, 492, 493, 494, 495, 496, 497, 498, 499, 500, 501, 502, 503, 506, 509, 510, 511]
  | 13 => [511, 512, 515, 516, 519, 522, 523, 524]
  | 14 => [524, 525, 526, 527, 528, 529, 530, 531, 532, 533, 534, 535, 538, 539, 540, 541, 542, 543, 544, 545, 546, 547, 548, 549, 552, 555, 556, 557]
  | 15 => [557, 558, 559, 560, 561, 562, 563, 564, 565, 566, 567, 568, 569, 570, 571, 572, 573, 576, 577, 578, 579, 580, 581, 582, 583, 584, 585, 586, 587, 588, 589, 590, 591, 592, 595, 598, 599, 600]
  | 16 => [600, 601, 602, 603, 604, 605, 606, 607, 608, 609, 610, 611, 612, 613, 614, 615, 616, 617, 618, 619, 620, 621, 624, 625, 626, 627, 628, 629, 630, 631, 632, 633, 634, 635, 636, 637, 638, 639, 640, 641, 642, 643, 644, 645, 648, 651, 652, 653]
  | 17 => [653, 654, 655, 656, 657, 658, 659, 660, 661, 662, 663, 664, 665, 666, 667, 668, 669, 670, 671, 672, 673, 674, 677, 678, 679, 680, 681, 682, 683, 684, 685, 686, 687, 688, 689, 690, 691, 692, 693, 694, 695, 696, 697, 698, 701, 704, 705, 706]
  | 18 => [706, 707, 708, 709, 710, 711, 712, 713, 714, 715, 716, 717, 720, 721, 722, 723, 724, 725, 726, 727, 728, 729, 730, 731, 734, 737, 738, 739]
  | 19 => [739, 740, 741, 742, 743, 744, 745, 746, 747, 748, 749, 750, 753, 754, 755, 756, 757, 758, 759, 760, 761, 762, 763, 764, 767, 770, 771, 772]
  | 20 => [772, 773, 774, 775, 776, 777, 778, 779, 780, 781, 782, 783, 786, 787, 788, 789, 790, 791, 792, 793, 794, 795, 796, 797, 800, 803, 804, 805]
  | 21 => [805, 806, 807, 808, 809, 810, 811, 812, 813, 814, 815, 816, 817, 818, 819, 820, 821, 824, 825, 826, 827, 828, 829, 830, 831, 832, 833, 834, 835, 836, 837, 838, 839, 840, 843, 846, 847, 848]
  | 22 => [848, 849, 850, 851, 852, 853, 854, 855, 856, 857, 858, 859, 860, 861, 862, 863, 864, 867, 868, 869, 870, 871, 872, 873, 874, 875, 876, 877, 878, 879, 880, 881, 882, 883, 886, 889, 890, 891]
  | 23 => [891, 892, 893, 894, 895, 896, 897, 898, 899, 900, 901, 902, 903, 904, 905, 906, 907, 910, 911, 912, 913, 914, 915, 916, 917, 918, 919, 920, 921, 922, 923, 924, 925, 926, 929, 932, 933, 934]
  | 24 => [934, 935, 936, 937, 938, 939, 940, 941, 942, 943, 944, 945, 948, 949, 950, 951, 952, 953, 954, 955, 956, 957, 958, 959, 962, 965, 966, 967]
  | 25 => [967, 968, 969, 970, 971, 972, 973, 976, 977, 978, 979, 980, 981, 982, 985, 988, 989, 990]
  | 26 => [990, 991, 992, 993, 994, 995, 996, 997, 998, 999, 1000, 1001, 1002, 1003, 1004, 1005, 1006, 1007, 1008, 1009, 1010, 1011, 1012, 1013, 1014, 1015, 1016, 1019, 1020, 1021, 1022, 1023, 1024, 1025, 1026, 1027, 1028, 1029, 1030, 1031, 1032, 1033, 1034, 1035, 1036, 1037, 1038, 1039, 1040, 1041, 1042, 1043, 1044, 1045, 1048, 1051, 1052, 1053]
  | 27 => [1053, 1054, 1055, 1056, 1057, 1058, 1059, 1060, 1061, 1062, 1063, 1064, 1065, 1066, 1067, 1068, 1069, 1070, 1071, 1072, 1073, 1074, 1077, 1078, 1079, 1080, 1081, 1082, 1083, 1084, 1085, 1086, 1087, 1088, 1089, 1090, 1091, 1092, 1093, 1094, 1095, 1096, 1097, 1098, 1101, 1104, 1105, 1106]
  | 28 => [1106, 1107, 1108, 1109, 1110, 1111, 1112, 1113, 1114, 1115, 1116, 1117, 1120, 1121, 1122, 1123, 1124, 1125, 1126, 1127, 1128, 1129, 1130, 1131, 1134, 1137, 1138, 1139]
  | 29 => [1139, 1140, 1141, 1142, 1143, 1144, 1145, 1146, 1147, 1148, 1149, 1150, 1151, 1152, 1153, 1154, 1155, 1158, 1159, 1160, 1161, 1162, 1163, 1164, 1165, 1166, 1167, 1168, 1169, 1170, 1171, 1172, 1173, 1174, 1177, 1180, 1181, 1182]
  | 30 => [1182, 1183, 1184, 1185, 1186, 1187, 1188, 1189, 1190, 1191, 1192, 1193, 1194, 1195, 1196, 1197, 1198, 1201, 1202, 1203, 1204, 1205, 1206, 1207, 1208, 1209, 1210, 1211, 1212, 1213, 1214, 1215, 1216, 1217, 1220, 1223, 1224, 1225]
  | 31 => [1225, 1226, 1227, 1228, 1229, 1230, 1231, 1232, 1233, 1234, 1235, 1236, 1237, 1238, 1239, 1240, 1241, 1244, 1245, 1246, 1247, 1248, 1249, 1250, 1251, 1252, 1253, 1254, 1255, 1256, 1257, 1258, 1259, 1260, 1263, 1266, 1267, 1268]
  | 32 => [1268, 1269, 1270, 1271, 1272, 1273, 1274, 1275, 1276, 1277, 1278, 1279, 1282, 1283, 1284, 1285, 1286, 1287, 1288, 1289, 1290, 1291, 1292, 1293, 1296, 1299, 1300, 1301]
  | 33 => [1301, 1302, 1303, 1304, 1305, 1306, 1307, 1310, 1311, 1312, 1313, 1314, 1315, 1316, 1319, 1322, 1323, 1324]
  | 34 => [1324, 1325, 1326, 1327, 1328, 1329, 1330, 1333, 1334, 1335, 1336, 1337, 1338, 1339, 1342, 1345, 1346, 1347]
  | 35 => [1347, 1348, 1349, 1350, 1351, 1352, 1353, 1356, 1357, 1358, 1359, 1360, 1361, 1362, 1365, 1368, 1369, 1370]
  | 36 => [1370, 1371, 1374, 1375, 1378, 1381, 1382, 1383]
  | 37 => [1383, 1384, 1385, 1386, 1387, 1388, 1389, 1390, 1391, 1392, 1393, 1394, 1395, 1396, 1397, 1398, 1399, 1400, 1401, 1402, 1403, 1404, 1405, 1406, 1407, 1408, 1409, 1410, 1411, 1413, 1414, 1415, 1416, 1417, 1419, 1420, 1421, 1424, 1425, 1426, 1427, 1428, 1429, 1430, 1431, 1432, 1433, 1434, 1435, 1436, 1437, 1438, 1439, 1440, 1441, 1442, 1443, 1444, 1445, 1446, 1447, 1448, 1449, 1450, 1451, 1452, 1454, 1455, 1456, 1457, 1458, 1460, 1461, 1462, 1465, 1468, 1469, 1470]
  | 38 => [1470, 1471, 1472, 1473, 1474, 1475, 1476, 1477, 1478, 1479, 1480, 1481, 1482, 1483, 1484, 1485, 1486, 1487, 1488, 1489, 1490, 1491, 1492, 1493, 1494, 1495, 1496, 1499, 1500, 1501, 1502, 1503, 1504, 1505, 1506, 1507, 1508, 1509, 1510, 1511, 1512, 1513, 1514, 1515, 1516, 1517, 1518, 1519, 1520, 1521, 1522, 1523, 1524, 1525, 1528, 1531, 1532, 1533]
  | 39 => [1533, 1534, 1535, 1536, 1537, 1538, 1539, 1540, 1541, 1542, 1543, 1544, 1545, 1546, 1547, 1548, 1549, 1550, 1551, 1552, 1553, 1554, 1555, 1556, 1557, 1558, 1559, 1562, 1563, 1564, 1565, 1566, 1567, 1568, 1569, 1570, 1571, 1572, 1573, 1574, 1575, 1576, 1577, 1578, 1579, 1580, 1581, 1582, 1583, 1584, 1585, 1586, 1587, 1588, 1591, 1594, 1595, 1596]
  | 40 => [1596, 1597, 1598, 1599, 1600, 1601, 1602, 1603, 1604, 1605, 1606, 1607, 1608, 1609, 1610, 1611, 1612, 1615, 1616, 1617, 1618, 1619, 1620, 1621, 1622, 1623, 1624, 1625, 1626, 1627, 1628, 1629, 1630, 1631, 1634, 1635, 1638, 1639, 1640]
  | 41 => [1640, 1641, 1642, 1643, 1644, 1645, 1646, 1647, 1648, 1649, 1650, 1651, 1654, 1655, 1656, 1657, 1658, 1659, 1660, 1661, 1662, 1663, 1664, 1665, 1668, 1669, 1672, 1673, 1674]
  | 42 => [1674, 1675, 1676, 1677, 1678, 1679, 1680, 1681, 1682, 1683, 1684, 1685, 1688, 1689, 1690, 1691, 1692, 1693, 1694, 1695, 1696, 1697, 1698, 1699, 1702, 1705, 1706, 1707]
  | 43 => [1707, 1708, 1709, 1710, 1711, 1712, 1713, 1714, 1715, 1716, 1717, 1718, 1719, 1720, 1721, 1722, 1723, 1724, 1725, 1726, 1727, 1728, 1731, 1732, 1733, 1734, 1735, 1736, 1737, 1738, 1739, 1740, 1741, 1742, 1743, 1744, 1745, 1746, 1747, 1748, 1749, 1750, 1751, 1752, 1755, 1758, 1759, 1760]
  | 44 => [1760, 1761, 1762, 1763, 1764, 1765, 1766, 1769, 1770, 1771, 1772, 1773, 1774, 1775, 1778, 1781, 1782, 1783]
  | 45 => [1783, 1784, 1785, 1786, 1787, 1788, 1789, 1790, 1791, 1792, 1793, 1794, 1795, 1796, 1797, 1798, 1799, 1802, 1803, 1804, 1805, 1806, 1807, 1808, 1809, 1810, 1811, 1812, 1813, 1814, 1815, 1816, 1817, 1818, 1821, 1824, 1825, 1826]
  | 46 => [1826, 1827, 1828, 1829, 1830, 1831, 1832, 1835, 1836, 1837, 1838, 1839, 1840, 1841, 1844, 1847, 1848, 1849]
  | 47 => [1849, 1850, 1851, 1852, 1853, 1854, 1855, 1856, 1857, 1858, 1859, 1860, 1861, 1862, 1863, 1864, 1865, 1868, 1869, 1870, 1871, 1872, 1873, 1874, 1875, 1876, 1877, 1878, 1879, 1880, 1881, 1882, 1883, 1884, 1887, 1890, 1891, 1892]
  | 48 => [1892, 1893, 1894, 1895, 1896, 1897, 1898, 1899, 1900, 1901, 1902, 1903, 1904, 1905, 1906, 1907, 1908, 1911, 1912, 1913, 1914, 1915, 1916, 1917, 1918, 1919, 1920, 1921, 1922, 1923, 1924, 1925, 1926, 1927, 1930, 1931, 1934, 1935, 1936]
  | 49 => [1936, 1937, 1938, 1939, 1940, 1941, 1942, 1945, 1946, 1947, 1948, 1949, 1950, 1951, 1954, 1957, 1958, 1959]
  | 50 => [1959, 1960, 1961, 1962, 1963, 1964, 1965, 1968, 1969, 1970, 1971, 1972, 1973, 1974, 1977, 1980, 1981, 1982]
  | 51 => [1982, 1983, 1984, 1985, 1986, 1987, 1988, 1989, 1990, 1991, 1992, 1993, 1996, 1997, 1998, 1999, 2000, 2001, 2002, 2003, 2004, 2005, 2006, 2007, 2010, 2013, 2014, 2015]
  | 52 => [2015, 2016, 2019, 2020, 2023, 2026, 2027, 2028]
  | 53 => [2028, 2029, 2032, 2033, 2036, 2039, 2040, 2041]
  | 54 => [2041, 2042, 2043, 2044, 2045, 2046, 2047, 2050, 2051, 2052, 2053, 2054, 2055, 2056, 2059, 2062, 2063, 2064]
  | 55 => [2064, 2067, 2070]
  | 56 => [2070, 2071, 2072]
  | _ => [2072]
def zblk : Nat → Nat → List Instr
  | 0 => zB_0
  | 1 => zB_1
  | 2 => zB_2
  | 3 => zB_3
  | 4 => zB_4
  | 5 => zB_5
  | 6 => zB_6
  | 7 => zB_7
  | 8 => zB_8
  | 9 => zB_9
  | 10 => zB_10
  | 11 => zB_11
  | 12 => zB_12
  | 13 => zB_13
  | 14 => zB_14
  | 15 => zB_15
  | 16 => zB_16
  | 17 => zB_17
  | 18 => zB_18
  | 19 => zB_19
  | 20 => zB_20
  | 21 => zB_21
  | 22 => zB_22
  | 23 => zB_23
  | 24 => zB_24
  | 25 => zB_25
  | 26 => zB_26
  | 27 => zB_27
  | 28 => zB_28
  | 29 => zB_29
  | 30 => zB_30
  | 31 => zB_31
  | 32 => zB_32
  | 33 => zB_33
  | 34 => zB_34
  | 35 => zB_35
  | 36 => zB_36
  | 37 => zB_37
  | 38 => zB_38
  | 39 => zB_39
  | 40 => zB_40
  | 41 => zB_41
  | 42 => zB_42
  | 43 => zB_43
  | 44 => zB_44
  | 45 => zB_45
  | 46 => zB_46
  | 47 => zB_47
  | 48 => zB_48
  | 49 => zB_49
  | 50 => zB_50
  | 51 => zB_51
  | 52 => zB_52
  | 53 => zB_53
  | 54 => zB_54
  | 55 => zB_55
  | 56 => zB_56
  | 57 => zB_57
  | 58 => zB_58
  | 59 => zB_59
  | 60 => zB_60
  | 61 => zB_61
  | 62 => zB_62
  | 63 => zB_63
  | 64 => zB_64
  | 65 => zB_65
  | 66 => zB_66
  | 67 => zB_67
  | 68 => zB_68
  | 69 => zB_69
  | 70 => zB_70
  | 71 => zB_71
  | 72 => zB_72
  | 73 => zB_73
  | 74 => zB_74
  | 75 => zB_75
  | 76 => zB_76
  | 77 => zB_77
  | 78 => zB_78
  | 79 => zB_79
  | 80 => zB_80
  | 81 => zB_81
  | 82 => zB_82
  | 83 => zB_83
  | 84 => zB_84
  | 85 => zB_85
  | 86 => zB_86
  | 87 => zB_87
  | 88 => zB_88
  | 89 => zB_89
  | 90 => zB_90
  | 91 => zB_91
  | 92 => zB_92
  | 93 => zB_93
  | 94 => zB_94
  | 95 => zB_95
  | 96 => zB_96
  | 97 => zB_97
  | 98 => zB_98
  | 99 => zB_99
  | 100 => zB_100
  | 101 => zB_101
  | 102 => zB_102
  | 103 => zB_103
  | 104 => zB_104
  | 105 => zB_105
  | 106 => zB_106
  | 107 => zB_107
  | 108 => zB_108
  | 109 => zB_109
  | 110 => zB_110
  | 111 => zB_111
  | 112 => zB_112
  | 113 => zB_113
  | 114 => zB_114
  | 115 => zB_115
  | 116 => zB_116
  | 117 => zB_117
  | 118 => zB_118
  | 119 => zB_119
  | 120 => zB_120
  | 121 => zB_121
  | 122 => zB_122
  | 123 => zB_123
  | 124 => zB_124
  | 125 => zB_125
  | 126 => zB_126
  | 127 => zB_127
  | 128 => zB_128
  | 129 => zB_129
  | 130 => zB_130
  | 131 => zB_131
  | 132 => zB_132
  | 133 => zB_133
  | 134 => zB_134
  | 135 => zB_135
  | 136 => zB_136
  | 137 => zB_137
  | 138 => zB_138
  | 139 => zB_139
  | 140 => zB_140
  | 141 => zB_141
  | 142 => zB_142
  | 143 => zB_143
  | 144 => zB_144
  | 145 => zB_145
  | 146 => zB_146
  | 147 => zB_147
  | 148 => zB_148
  | 149 => zB_149
  | 150 => zB_150
  | 151 => zB_151
  | 152 => zB_152
  | 153 => zB_153
  | 154 => zB_154
  | 155 => zB_155
  | 156 => zB_156
  | 157 => zB_157
  | 158 => zB_158
  | 159 => zB_159
  | 160 => zB_160
  | 161 => zB_161
  | 162 => zB_162
  | 163 => zB_163
  | 164 => zB_164
  | 165 => zB_165
  | 166 => zB_166
  | 167 => zB_167
  | 168 => zB_168
  | 169 => zB_169
  | 170 => zB_170
  | 171 => zB_171
  | 172 => zB_172
  | 173 => zB_173
  | 174 => zB_174
  | 175 => zB_175
  | 176 => zB_176
  | 177 => zB_177
  | 178 => zB_178
  | 179 => zB_179
  | 180 => zB_180
  | 181 => zB_181
  | 182 => zB_182
  | 183 => zB_183
  | 184 => zB_184
  | 185 => zB_185
  | 186 => zB_186
  | 187 => zB_187
  | 188 => zB_188
  | 189 => zB_189
  | 190 => zB_190
  | 191 => zB_191
  | 192 => zB_192
  | 193 => zB_193
  | 194 => zB_194
  | 195 => zB_195
  | 196 => zB_196
  | 197 => zB_197
  | 198 => zB_198
  | 199 => zB_199
  | 200 => zB_200
  | 201 => zB_201
  | 202 => zB_202
  | 203 => zB_203
  | 204 => zB_204
  | 205 => zB_205
  | 206 => zB_206
  | 207 => zB_207
  | 208 => zB_208
  | 209 => zB_209
  | 210 => zB_210
  | 211 => zB_211
  | 212 => zB_212
  | 213 => zB_213
  | 214 => zB_214
  | 215 => zB_215
  | 216 => zB_216
  | 217 => zB_217
  | 218 => zB_218
  | 219 => zB_219
  | 220 => zB_220
  | 221 => zB_221
  | 222 => zB_222
  | 223 => zB_223
  | 224 => zB_224
  | 225 => zB_225
  | 226 => zB_226
  | 227 => zB_227
  | 228 => zB_228
  | 229 => zB_229
  | 230 => zB_230
  | 231 => zB_231
  | 232 => zB_232
  | 233 => zB_233
  | 234 => zB_234
  | 235 => zB_235
  | 236 => zB_236
  | 237 => zB_237
  | 238 => zB_238
  | 239 => zB_239
  | 240 => zB_240
  | 241 => zB_241
  | 242 => zB_242
  | 243 => zB_243
  | 244 => zB_244
  | 245 => zB_245
  | 246 => zB_246
  | 247 => zB_247
  | 248 => zB_248
  | 249 => zB_249
  | 250 => zB_250
  | 251 => zB_251
  | 252 => zB_252
  | 253 => zB_253
  | 254 => zB_254
  | 255 => zB_255
  | 256 => zB_256
  | _ => fun _ => []
def zpcs : Nat → Nat → List Nat
  | 0 => zP_0
  | 1 => zP_1
  | 2 => zP_2
  | 3 => zP_3
  | 4 => zP_4
  | 5 => zP_5
  | 6 => zP_6
  | 7 => zP_7
  | 8 => zP_8
  | 9 => zP_9
  | 10 => zP_10
  | 11 => zP_11
  | 12 => zP_12
  | 13 => zP_13
  | 14 => zP_14
  | 15 => zP_15
  | 16 => zP_16
  | 17 => zP_17
  | 18 => zP_18
  | 19 => zP_19
  | 20 => zP_20
  | 21 => zP_21
  | 22 => zP_22
  | 23 => zP_23
  | 24 => zP_24
  | 25 => zP_25
  | 26 => zP_26
  | 27 => zP_27
  | 28 => zP_28
  | 29 => zP_29
  | 30 => zP_30
  | 31 => zP_31
  | 32 => zP_32
  | 33 => zP_33
  | 34 => zP_34
  | 35 => zP_35
  | 36 => zP_36
  | 37 => zP_37
  | 38 => zP_38
  | 39 => zP_39
  | 40 => zP_40
  | 41 => zP_41
  | 42 => zP_42
  | 43 => zP_43
  | 44 => zP_44
  | 45 => zP_45
  | 46 => zP_46
  | 47 => zP_47
  | 48 => zP_48
  | 49 => zP_49
  | 50 => zP_50
  | 51 => zP_51
  | 52 => zP_52
  | 53 => zP_53
  | 54 => zP_54
  | 55 => zP_55
  | 56 => zP_56
  | 57 => zP_57
  | 58 => zP_58
  | 59 => zP_59
  | 60 => zP_60
  | 61 => zP_61
  | 62 => zP_62
  | 63 => zP_63
  | 64 => zP_64
  | 65 => zP_65
  | 66 => zP_66
  | 67 => zP_67
  | 68 => zP_68
  | 69 => zP_69
  | 70 => zP_70
  | 71 => zP_71
  | 72 => zP_72
  | 73 => zP_73
  | 74 => zP_74
  | 75 => zP_75
  | 76 => zP_76
  | 77 => zP_77
  | 78 => zP_78
  | 79 => zP_79
  | 80 => zP_80
  | 81 => zP_81
  | 82 => zP_82
  | 83 => zP_83
  | 84 => zP_84
  | 85 => zP_85
  | 86 => zP_86
  | 87 => zP_87
  | 88 => zP_88
  | 89 => zP_89
  | 90 => zP_90
  | 91 => zP_91
  | 92 => zP_92
  | 93 => zP_93
  | 94 => zP_94
  | 95 => zP_95
  | 96 => zP_96
  | 97 => zP_97
  | 98 => zP_98
  | 99 => zP_99
  | 100 => zP_100
  | 101 => zP_101
  | 102 => zP_102
  | 103 => zP_103
  | 104 => zP_104
  | 105 => zP_105
  | 106 => zP_106
  | 107 => zP_107
  | 108 => zP_108
  | 109 => zP_109
  | 110 => zP_110
  | 111 => zP_111
  | 112 => zP_112
  | 113 => zP_113
  | 114 => zP_114
  | 115 => zP_115
  | 116 => zP_116
  | 117 => zP_117
  | 118 => zP_118
  | 119 => zP_119
  | 120 => zP_120
  | 121 => zP_121
  | 122 => zP_122
  | 123 => zP_123
  | 124 => zP_124
  | 125 => zP_125
  | 126 => zP_126
  | 127 => zP_127
  | 128 => zP_128
  | 129 => zP_129
  | 130 => zP_130
  | 131 => zP_131
  | 132 => zP_132
  | 133 => zP_133
  | 134 => zP_134
  | 135 => zP_135
  | 136 => zP_136
  | 137 => zP_137
  | 138 => zP_138
  | 139 => zP_139
  | 140 => zP_140
  | 141 => zP_141
  | 142 => zP_142
  | 143 => zP_143
  | 144 => zP_144
  | 145 => zP_145
  | 146 => zP_146
  | 147 => zP_147
  | 148 => zP_148
  | 149 => zP_149
  | 150 => zP_150
  | 151 => zP_151
  | 152 => zP_152
  | 153 => zP_153
  | 154 => zP_154
  | 155 => zP_155
  | 156 => zP_156
  | 157 => zP_157
  | 158 => zP_158
  | 159 => zP_159
  | 160 => zP_160
  | 161 => zP_161
  | 162 => zP_162
  | 163 => zP_163
  | 164 => zP_164
  | 165 => zP_165
  | 166 => zP_166
  | 167 => zP_167
  | 168 => zP_168
  | 169 => zP_169
  | 170 => zP_170
  | 171 => zP_171
  | 172 => zP_172
  | 173 => zP_173
  | 174 => zP_174
  | 175 => zP_175
  | 176 => zP_176
  | 177 => zP_177
  | 178 => zP_178
  | 179 => zP_179
  | 180 => zP_180
  | 181 => zP_181
  | 182 => zP_182
  | 183 => zP_183
  | 184 => zP_184
  | 185 => zP_185
  | 186 => zP_186
  | 187 => zP_187
  | 188 => zP_188
  | 189 => zP_189
  | 190 => zP_190
  | 191 => zP_191
  | 192 => zP_192
  | 193 => zP_193
  | 194 => zP_194
  | 195 => zP_195
  | 196 => zP_196
  | 197 => zP_197
  | 198 => zP_198
  | 199 => zP_199
  | 200 => zP_200
  | 201 => zP_201
  | 202 => zP_202
  | 203 => zP_203
  | 204 => zP_204
  | 205 => zP_205
  | 206 => zP_206
  | 207 => zP_207
  | 208 => zP_208
  | 209 => zP_209
  | 210 => zP_210
  | 211 => zP_211
  | 212 => zP_212
  | 213 => zP_213
  | 214 => zP_214
  | 215 => zP_215
  | 216 => zP_216
  | 217 => zP_217
  | 218 => zP_218
  | 219 => zP_219
  | 220 => zP_220
  | 221 => zP_221
  | 222 => zP_222
  | 223 => zP_223
  | 224 => zP_224
  | 225 => zP_225
  | 226 => zP_226
  | 227 => zP_227
  | 228 => zP_228
  | 229 => zP_229
  | 230 => zP_230
  | 231 => zP_231
  | 232 => zP_232
  | 233 => zP_233
  | 234 => zP_234
  | 235 => zP_235
  | 236 => zP_236
  | 237 => zP_237
  | 238 => zP_238
  | 239 => zP_239
  | 240 => zP_240
  | 241 => zP_241
  | 242 => zP_242
  | 243 => zP_243
  | 244 => zP_244
  | 245 => zP_245
  | 246 => zP_246
  | 247 => zP_247
  | 248 => zP_248
  | 249 => zP_249
  | 250 => zP_250
  | 251 => zP_251
  | 252 => zP_252
  | 253 => zP_253
  | 254 => zP_254
  | 255 => zP_255
  | 256 => zP_256
  | _ => fun _ => []
def zmT : Nat → MethodName × ByteArray × Nat × Option FieldType × Nat × Nat × Nat
  | 0 => (yX0_read, cX0_read, 4, some .int, 2, 0, 2)
  | 1 => (yX0_goesOn, cX0_goesOn, 2, some .boolean, 1, 0, 1)
  | 2 => (yX0_goesOnWithLetter, cX0_goesOnWithLetter, 2, some .boolean, 1, 0, 0)
  | 3 => (yX0_goesOnWithParting, cX0_goesOnWithParting, 1, some .boolean, 0, 0, 0)
  | 4 => (yX0_goesOnWithDigit, cX0_goesOnWithDigit, 2, some .boolean, 1, 0, 0)
  | 5 => (yX0_letterOf, cX0_letterOf, 1, some .int, 1, 0, 0)
  | 6 => (yX0_brokenBy, cX0_brokenBy, 6, some .int, 4, 0, 0)
  | 7 => (yX1_add, cX1_add, 5, some .int, 4, 1, 0)
  | 8 => (yX1_has, cX1_has, 3, some .boolean, 2, 1, 0)
  | 9 => (yX1_isHeld, cX1_isHeld, 4, some .boolean, 2, 1, 1)
  | 10 => (yX1_markYears, cX1_markYears, 3, none, 1, 1, 1)
  | 11 => (yX1_countGaps, cX1_countGaps, 2, some .int, 1, 1, 3)
  | 12 => (yX1_findGap, cX1_findGap, 6, some .boolean, 2, 1, 2)
  | 13 => (yX1_keepGap, cX1_keepGap, 4, none, 3, 1, 0)
  | 14 => (yX1_countQuarrels, cX1_countQuarrels, 5, some .int, 1, 1, 0)
  | 15 => (yX1_stands, cX1_stands, 6, some .boolean, 3, 1, 2)
  | 16 => (yX1_firstHaving, cX1_firstHaving, 5, some .int, 3, 1, 1)
  | 17 => (yX1_nextAbove, cX1_nextAbove, 5, some .int, 2, 1, 0)
  | 18 => (yX1_isOpen, cX1_isOpen, 4, some .boolean, 3, 1, 2)
  | 19 => (yX1_isHeldAround, cX1_isHeldAround, 6, some .boolean, 2, 1, 0)
  | 20 => (yX1_isHeldByOther, cX1_isHeldByOther, 5, some .boolean, 3, 1, 1)
  | 21 => (yX2_read, cX2_read, 5, none, 2, 2, 2)
  | 22 => (yX2_give, cX2_give, 3, none, 2, 2, 0)
  | 23 => (yX2_sumOfTrials, cX2_sumOfTrials, 3, some .int, 0, 2, 0)
  | 24 => (yX2_findBest, cX2_findBest, 2, none, 0, 2, 3)
  | 25 => (yX2_seatOneMore, cX2_seatOneMore, 6, none, 1, 2, 2)
  | 26 => (yX2_lookFrom, cX2_lookFrom, 7, none, 2, 2, 1)
  | 27 => (yX2_nearest, cX2_nearest, 4, some .int, 1, 2, 0)
  | 28 => (yX2_payFor, cX2_payFor, 5, none, 2, 2, 0)
  | 29 => (yX2_cost, cX2_cost, 6, some .long, 2, 2, 0)
  | 30 => (yX2_findCalm, cX2_findCalm, 5, none, 0, 2, 2)
  | 31 => (yX2_greatestOutside, cX2_greatestOutside, 4, some .int, 1, 2, 1)
  | 32 => (yX2_dearestFree, cX2_dearestFree, 5, some .int, 1, 2, 0)
  | 33 => (yX2_isAhead, cX2_isAhead, 3, some .boolean, 2, 2, 0)
  | 34 => (yX2_accepts, cX2_accepts, 4, some .boolean, 1, 2, 1)
  | 35 => (yX2_isQuarrel, cX2_isQuarrel, 4, some .boolean, 2, 2, 1)
  | 36 => (yX2_countQuarrels, cX2_countQuarrels, 4, some .int, 0, 2, 2)
  | 37 => (yX2_nthQuarrel, cX2_nthQuarrel, 5, some .int, 1, 2, 2)
  | 38 => (yX3_knows, cX3_knows, 2, some .boolean, 1, 3, 0)
  | 39 => (yX3_add, cX3_add, 5, some .int, 4, 3, 0)
  | 40 => (yX3_sharesDay, cX3_sharesDay, 6, some .boolean, 4, 3, 0)
  | 41 => (yX3_onDay, cX3_onDay, 5, some .int, 3, 3, 0)
  | 42 => (yX3_withDays, cX3_withDays, 5, some .int, 3, 3, 0)
  | 43 => (yX4_add, cX4_add, 4, some .int, 3, 4, 0)
  | 44 => (yX4_lookedOn, cX4_lookedOn, 4, some .boolean, 2, 4, 0)
  | 45 => (yX4_firstDayWith, cX4_firstDayWith, 5, some .int, 2, 4, 0)
  | 46 => (yX4_dayBehindLookAhead, cX4_dayBehindLookAhead, 5, some .int, 2, 4, 1)
  | 47 => (yX4_countWrong, cX4_countWrong, 4, some .int, 1, 4, 1)
  | 48 => (yX4_seenAhead, cX4_seenAhead, 5, some .int, 2, 4, 0)
  | 49 => (yX5_readHands, cX5_readHands, 4, none, 2, 5, 1)
  | 50 => (yX5_want, cX5_want, 7, some .boolean, 3, 5, 1)
  | 51 => (yX5_addGet, cX5_addGet, 5, none, 2, 5, 0)
  | 52 => (yX5_fewestDays, cX5_fewestDays, 6, some .int, 1, 5, 2)
  | 53 => (yX5_daysFor, cX5_daysFor, 2, some .int, 2, 5, 0)
  | 54 => (yX5_mostReadyAfter, cX5_mostReadyAfter, 4, some .int, 1, 5, 1)
  | 55 => (yX5_readyAfter, cX5_readyAfter, 4, some .int, 1, 5, 0)
  | 56 => (yX6_lay, cX6_lay, 4, none, 3, 6, 2)
  | 57 => (yX6_layOn, cX6_layOn, 8, none, 5, 6, 1)
  | 58 => (yX6_rise, cX6_rise, 2, some .int, 2, 6, 0)
  | 59 => (yX6_findBest, cX6_findBest, 5, some .boolean, 2, 6, 3)
  | 60 => (yX6_growsLike, cX6_growsLike, 7, some .boolean, 3, 6, 2)
  | 61 => (yX7_knows, cX7_knows, 2, some .boolean, 1, 7, 0)
  | 62 => (yX7_add, cX7_add, 2, some .int, 1, 7, 0)
  | 63 => (yX7_hadMakers, cX7_hadMakers, 2, some .int, 1, 7, 0)
  | 64 => (yX7_mayHave, cX7_mayHave, 4, some .boolean, 3, 7, 1)
  | 65 => (yX8_knows, cX8_knows, 2, some .boolean, 1, 8, 0)
  | 66 => (yX8_renew, cX8_renew, 4, none, 3, 8, 1)
  | 67 => (yX8_cutTo, cX8_cutTo, 2, some .int, 2, 8, 0)
  | 68 => (yX8_missing, cX8_missing, 4, some .int, 3, 8, 0)
  | 69 => (yX8_take, cX8_take, 6, some .int, 4, 8, 1)
  | 70 => (yX8_takenWithin, cX8_takenWithin, 5, some .boolean, 3, 8, 0)
  | 71 => (yX8_longestRun, cX8_longestRun, 10, some .int, 4, 8, 1)
  | 72 => (yX9_knows, cX9_knows, 2, some .boolean, 1, 9, 0)
  | 73 => (yX9_add, cX9_add, 4, some .int, 3, 9, 0)
  | 74 => (yX9_countBetween, cX9_countBetween, 6, some .int, 3, 9, 0)
  | 75 => (yX9_weigh, cX9_weigh, 5, none, 2, 9, 3)
  | 76 => (yX9_addFree, cX9_addFree, 4, none, 1, 9, 0)
  | 77 => (yX9_choose, cX9_choose, 3, none, 0, 9, 2)
  | 78 => (yX9_riskOf, cX9_riskOf, 2, some .int, 1, 9, 1)
  | 79 => (yX9_planeOf, cX9_planeOf, 4, some .int, 1, 9, 0)
  | 80 => (yX9_countDaysOver, cX9_countDaysOver, 4, some .int, 1, 9, 4)
  | 81 => (yX9_isFirstOfDay, cX9_isFirstOfDay, 3, some .boolean, 1, 9, 0)
  | 82 => (yX10_knows, cX10_knows, 2, some .boolean, 1, 10, 0)
  | 83 => (yX10_add, cX10_add, 4, some .int, 3, 10, 0)
  | 84 => (yX11_violin, cX11_violin, 4, some .int, 3, 11, 1)
  | 85 => (yX11_player, cX11_player, 2, some .int, 1, 11, 1)
  | 86 => (yX11_trial, cX11_trial, 5, some .int, 3, 11, 1)
  | 87 => (yX11_had, cX11_had, 5, some .int, 3, 11, 1)
  | 88 => (yX11_may, cX11_may, 3, some .int, 2, 11, 3)
  | 89 => (yX11_ofViolin, cX11_ofViolin, 3, some .int, 2, 11, 1)
  | 90 => (yX11_ofPlayer, cX11_ofPlayer, 3, some .int, 2, 11, 4)
  | 91 => (yX11_sum, cX11_sum, 1, some .int, 0, 11, 4)
  | 92 => (yX11_lent, cX11_lent, 4, some .int, 2, 11, 4)
  | 93 => (yX11_quarrels, cX11_quarrels, 5, some .int, 3, 11, 4)
  | 94 => (yX11_quarrel, cX11_quarrel, 6, some .int, 4, 11, 4)
  | 95 => (yX11_lend, cX11_lend, 6, some .int, 4, 11, 3)
  | 96 => (yX11_back, cX11_back, 4, some .int, 2, 11, 1)
  | 97 => (yX11_warn, cX11_warn, 3, some .int, 2, 11, 1)
  | 98 => (yX11_loan, cX11_loan, 3, some .int, 2, 11, 2)
  | 99 => (yX11_on, cX11_on, 4, some .int, 3, 11, 1)
  | 100 => (yX11_look, cX11_look, 4, some .int, 3, 11, 1)
  | 101 => (yX11_born, cX11_born, 5, some .int, 3, 11, 2)
  | 102 => (yX11_blame, cX11_blame, 4, some .int, 2, 11, 2)
  | 103 => (yX11_wrongs, cX11_wrongs, 2, some .int, 1, 11, 2)
  | 104 => (yX11_days, cX11_days, 7, some .int, 5, 11, 3)
  | 105 => (yX11_holder, cX11_holder, 5, some .int, 4, 11, 1)
  | 106 => (yX11_gaps, cX11_gaps, 3, some .int, 2, 11, 4)
  | 107 => (yX11_gap, cX11_gap, 4, some .int, 3, 11, 3)
  | 108 => (yX11_claim, cX11_claim, 4, some .int, 3, 11, 3)
  | 109 => (yX11_trip, cX11_trip, 4, some .int, 3, 11, 1)
  | 110 => (yX11_fix, cX11_fix, 4, some .int, 2, 11, 1)
  | 111 => (yX11_spread, cX11_spread, 2, some .int, 1, 11, 4)
  | 112 => (yX11_plane, cX11_plane, 2, some .int, 1, 11, 4)
  | 113 => (yX11_limit, cX11_limit, 3, some .int, 1, 11, 1)
  | 114 => (yX11_over, cX11_over, 1, some .int, 0, 11, 5)
  | 115 => (yX11_damp, cX11_damp, 9, some .int, 7, 11, 2)
  | 116 => (yX11_rings, cX11_rings, 7, some .int, 5, 11, 2)
  | 117 => (yX11_oak, cX11_oak, 7, some .int, 5, 11, 2)
  | 118 => (yX11_laid, cX11_laid, 5, some .long, 3, 11, 3)
  | 119 => (yX11_best, cX11_best, 3, some .long, 2, 11, 4)
  | 120 => (yX11_oneTree, cX11_oneTree, 3, some .int, 2, 11, 3)
  | 121 => (yX11_contract, cX11_contract, 7, some .int, 4, 11, 3)
  | 122 => (yX11_clause, cX11_clause, 2, some .int, 1, 11, 1)
  | 123 => (yX11_sheet, cX11_sheet, 4, some .int, 3, 11, 2)
  | 124 => (yX11_lose, cX11_lose, 3, some .int, 1, 11, 2)
  | 125 => (yX11_put, cX11_put, 5, some .int, 3, 11, 1)
  | 126 => (yX11_at, cX11_at, 5, some .long, 3, 11, 3)
  | 127 => (yX11_tell, cX11_tell, 2, some .int, 1, 11, 4)
  | 128 => (yX11_praise, cX11_praise, 2, some .int, 1, 11, 2)
  | 129 => (yX11_as, cX11_as, 3, some .int, 2, 11, 1)
  | 130 => (yX11_trace, cX11_trace, 1, some .int, 0, 11, 0)
  | 131 => (yX11_fault, cX11_fault, 1, some .int, 0, 11, 0)
  | 132 => (yX11_many, cX11_many, 2, some .int, 1, 11, 0)
  | 133 => (yX11_within, cX11_within, 3, some .boolean, 3, 11, 0)
  | 134 => (yX11_isLane, cX11_isLane, 1, some .boolean, 1, 11, 1)
  | 135 => (yX11_timesIn, cX11_timesIn, 5, some .int, 3, 11, 0)
  | 136 => (yX11_met, cX11_met, 2, some .int, 1, 11, 0)
  | 137 => (yX11_takeCells, cX11_takeCells, 5, some .int, 4, 11, 2)
  | 138 => (yX11_takeLending, cX11_takeLending, 5, some .int, 3, 11, 3)
  | 139 => (yX11_mayHave, cX11_mayHave, 3, some .boolean, 2, 11, 2)
  | 140 => (yX11_mayHaveSet, cX11_mayHaveSet, 4, some .int, 1, 11, 3)
  | 141 => (yX11_broken, cX11_broken, 3, some .int, 1, 11, 1)
  | 142 => (yX11_leave, cX11_leave, 2, none, 1, 11, 0)
  | 143 => (yX11_tellPlain, cX11_tellPlain, 2, some .int, 1, 11, 1)
  | 144 => (yX11_tellOld, cX11_tellOld, 2, some .int, 1, 11, 2)
  | 145 => (yX11_tellFamed, cX11_tellFamed, 3, some .int, 1, 11, 3)
  | 146 => (yX11_praiseLent, cX11_praiseLent, 2, some .int, 1, 11, 1)
  | 147 => (yX11_praiseFamed, cX11_praiseFamed, 1, some .int, 0, 11, 1)
  | 148 => (yX12_fails, cX12_fails, 2, some .int, 1, 12, 0)
  | 149 => (yX12_lost, cX12_lost, 2, some .long, 1, 12, 0)
  | 150 => (yX12_within, cX12_within, 3, some .boolean, 3, 12, 0)
  | 151 => (yX12_isDay, cX12_isDay, 1, some .boolean, 1, 12, 1)
  | 152 => (yX12_isViolin, cX12_isViolin, 2, some .boolean, 1, 12, 0)
  | 153 => (yX12_isPlayer, cX12_isPlayer, 2, some .boolean, 1, 12, 0)
  | 154 => (yX12_violin, cX12_violin, 4, some .int, 3, 12, 1)
  | 155 => (yX12_player, cX12_player, 2, some .int, 1, 12, 1)
  | 156 => (yX12_trial, cX12_trial, 5, some .int, 3, 12, 1)
  | 157 => (yX12_had, cX12_had, 5, some .int, 3, 12, 1)
  | 158 => (yX12_hasHad, cX12_hasHad, 4, some .boolean, 2, 12, 0)
  | 159 => (yX12_mayHave, cX12_mayHave, 3, some .boolean, 2, 12, 1)
  | 160 => (yX12_may, cX12_may, 3, some .int, 2, 12, 2)
  | 161 => (yX12_countOf, cX12_countOf, 5, some .int, 3, 12, 0)
  | 162 => (yX12_ofViolin, cX12_ofViolin, 3, some .int, 2, 12, 1)
  | 163 => (yX12_ofPlayer, cX12_ofPlayer, 5, some .int, 2, 12, 2)
  | 164 => (yX12_findMays, cX12_findMays, 3, none, 0, 12, 2)
  | 165 => (yX12_findMost, cX12_findMost, 6, none, 0, 12, 3)
  | 166 => (yX12_sum, cX12_sum, 1, some .int, 0, 12, 4)
  | 167 => (yX12_findBest, cX12_findBest, 5, none, 0, 12, 4)
  | 168 => (yX12_likes, cX12_likes, 5, some .boolean, 3, 12, 0)
  | 169 => (yX12_isAhead, cX12_isAhead, 3, some .boolean, 2, 12, 0)
  | 170 => (yX12_nextOf, cX12_nextOf, 4, some .int, 1, 12, 1)
  | 171 => (yX12_findCalm, cX12_findCalm, 5, none, 0, 12, 3)
  | 172 => (yX12_lent, cX12_lent, 3, some .int, 2, 12, 5)
  | 173 => (yX12_against, cX12_against, 5, some .int, 4, 12, 1)
  | 174 => (yX12_isSheet, cX12_isSheet, 1, some .boolean, 1, 12, 1)
  | 175 => (yX12_isLane, cX12_isLane, 1, some .boolean, 1, 12, 1)
  | 176 => (yX12_isRow, cX12_isRow, 6, some .boolean, 2, 12, 1)
  | 177 => (yX12_isLending, cX12_isLending, 2, some .boolean, 0, 12, 2)
  | 178 => (yX12_holderIn, cX12_holderIn, 3, some .int, 1, 12, 0)
  | 179 => (yX12_doQuarrel, cX12_doQuarrel, 4, some .boolean, 2, 12, 2)
  | 180 => (yX12_quarrelAt, cX12_quarrelAt, 5, some .int, 1, 12, 3)
  | 181 => (yX12_againstRow, cX12_againstRow, 5, some .int, 3, 12, 3)
  | 182 => (yX12_quarrels, cX12_quarrels, 5, some .int, 3, 12, 4)
  | 183 => (yX12_quarrel, cX12_quarrel, 7, some .int, 4, 12, 4)
  | 184 => (yX12_isLoan, cX12_isLoan, 2, some .boolean, 1, 12, 0)
  | 185 => (yX12_sharesDay, cX12_sharesDay, 6, some .boolean, 4, 12, 0)
  | 186 => (yX12_lend, cX12_lend, 5, some .int, 4, 12, 2)
  | 187 => (yX12_back, cX12_back, 4, some .int, 2, 12, 1)
  | 188 => (yX12_warn, cX12_warn, 3, some .int, 2, 12, 2)
  | 189 => (yX12_tripsIn, cX12_tripsIn, 4, some .int, 1, 12, 1)
  | 190 => (yX12_broken, cX12_broken, 3, some .int, 1, 12, 2)
  | 191 => (yX12_loan, cX12_loan, 3, some .int, 2, 12, 3)
  | 192 => (yX12_loanOn, cX12_loanOn, 5, some .int, 3, 12, 1)
  | 193 => (yX12_on, cX12_on, 4, some .int, 3, 12, 2)
  | 194 => (yX12_look, cX12_look, 5, some .int, 3, 12, 2)
  | 195 => (yX12_isBorn, cX12_isBorn, 5, some .boolean, 2, 12, 0)
  | 196 => (yX12_born, cX12_born, 4, some .int, 3, 12, 1)
  | 197 => (yX12_blame, cX12_blame, 4, some .int, 2, 12, 2)
  | 198 => (yX12_wrongs, cX12_wrongs, 6, some .int, 1, 12, 1)
  | 199 => (yX12_sizeOf, cX12_sizeOf, 3, some .int, 1, 12, 0)
  | 200 => (yX12_fewestDays, cX12_fewestDays, 11, some .int, 2, 12, 1)
  | 201 => (yX12_days, cX12_days, 12, some .int, 5, 12, 2)
  | 202 => (yX12_isYear, cX12_isYear, 1, some .boolean, 1, 12, 1)
  | 203 => (yX12_holder, cX12_holder, 5, some .int, 4, 12, 2)
  | 204 => (yX12_hasYear, cX12_hasYear, 4, some .boolean, 3, 12, 1)
  | 205 => (yX12_isHad, cX12_isHad, 4, some .boolean, 2, 12, 2)
  | 206 => (yX12_findYears, cX12_findYears, 3, none, 1, 12, 0)
  | 207 => (yX12_isInGap, cX12_isInGap, 3, some .boolean, 2, 12, 3)
  | 208 => (yX12_gapsOf, cX12_gapsOf, 5, some .int, 2, 12, 4)
  | 209 => (yX12_quarrelsOf, cX12_quarrelsOf, 6, some .int, 1, 12, 0)
  | 210 => (yX12_gaps, cX12_gaps, 3, some .int, 2, 12, 5)
  | 211 => (yX12_gap, cX12_gap, 4, some .int, 3, 12, 5)
  | 212 => (yX12_doesStand, cX12_doesStand, 7, some .boolean, 3, 12, 3)
  | 213 => (yX12_isOpen, cX12_isOpen, 7, some .boolean, 3, 12, 4)
  | 214 => (yX12_claim, cX12_claim, 4, some .int, 3, 12, 5)
  | 215 => (yX12_trip, cX12_trip, 5, some .int, 3, 12, 2)
  | 216 => (yX12_fix, cX12_fix, 4, some .int, 2, 12, 1)
  | 217 => (yX12_planeIn, cX12_planeIn, 3, some .int, 2, 12, 0)
  | 218 => (yX12_isWay, cX12_isWay, 3, some .boolean, 1, 12, 1)
  | 219 => (yX12_riskOf, cX12_riskOf, 6, some .int, 1, 12, 1)
  | 220 => (yX12_findSpread, cX12_findSpread, 4, none, 1, 12, 2)
  | 221 => (yX12_spread, cX12_spread, 2, some .int, 1, 12, 3)
  | 222 => (yX12_plane, cX12_plane, 3, some .int, 1, 12, 3)
  | 223 => (yX12_limit, cX12_limit, 3, some .int, 1, 12, 1)
  | 224 => (yX12_over, cX12_over, 5, some .int, 0, 12, 3)
  | 225 => (yX12_damp, cX12_damp, 15, some .int, 7, 12, 2)
  | 226 => (yX12_areWidths, cX12_areWidths, 4, some .boolean, 2, 12, 1)
  | 227 => (yX12_rings, cX12_rings, 9, some .int, 5, 12, 2)
  | 228 => (yX12_oak, cX12_oak, 9, some .int, 5, 12, 2)
  | 229 => (yX12_signOf, cX12_signOf, 1, some .int, 1, 12, 0)
  | 230 => (yX12_layAt, cX12_layAt, 6, none, 2, 12, 1)
  | 231 => (yX12_layTogether, cX12_layTogether, 7, none, 3, 12, 1)
  | 232 => (yX12_laid, cX12_laid, 4, some .long, 3, 12, 2)
  | 233 => (yX12_best, cX12_best, 7, some .long, 2, 12, 2)
  | 234 => (yX12_oneTree, cX12_oneTree, 4, some .int, 2, 12, 2)
  | 235 => (yX12_letterOf, cX12_letterOf, 1, some .int, 1, 12, 0)
  | 236 => (yX12_faultOf, cX12_faultOf, 8, some .int, 2, 12, 1)
  | 237 => (yX12_clauseMany, cX12_clauseMany, 3, some .int, 0, 12, 0)
  | 238 => (yX12_contract, cX12_contract, 8, some .int, 4, 12, 2)
  | 239 => (yX12_clause, cX12_clause, 2, some .int, 1, 12, 1)
  | 240 => (yX12_sheet, cX12_sheet, 5, some .int, 3, 12, 2)
  | 241 => (yX12_lose, cX12_lose, 3, some .int, 1, 12, 2)
  | 242 => (yX12_put, cX12_put, 4, some .int, 3, 12, 2)
  | 243 => (yX12_at, cX12_at, 4, some .long, 3, 12, 2)
  | 244 => (yX12_begins, cX12_begins, 2, none, 1, 12, 0)
  | 245 => (yX12_tell, cX12_tell, 2, some .int, 1, 12, 1)
  | 246 => (yX12_praise, cX12_praise, 2, some .int, 1, 12, 1)
  | 247 => (yX12_as, cX12_as, 3, some .int, 2, 12, 1)
  | 248 => (yX12_trace, cX12_trace, 1, some .int, 0, 12, 0)
  | 249 => (yX12_fault, cX12_fault, 1, some .int, 0, 12, 0)
  | 250 => (yX12_many, cX12_many, 2, some .int, 1, 12, 1)
  | 251 => (yJ6_bitCount_0f7a4, cJ6_bitCount_0f7a4, 1, some .int, 1, 14, 0)
  | 252 => (yJ7_fill_d0a16, cJ7_fill_d0a16, 5, none, 2, 16, 0)
  | 253 => (yJ7_fill_53178, cJ7_fill_53178, 4, none, 2, 16, 0)
  | 254 => (yJ9_max_7cf53, cJ9_max_7cf53, 2, some .int, 2, 15, 0)
  | 255 => (yJ9_min_7cf53, cJ9_min_7cf53, 2, some .int, 2, 15, 0)
  | 256 => (yL_law, cL_law, 4, some .boolean, 1, 13, 6)
  | _ => (yL_law, cL_law, 0, none, 0, 99, 0)
def zst? : Nat → Bool
  | 5 => true
  | 53 => true
  | 58 => true
  | 67 => true
  | 133 => true
  | 134 => true
  | 135 => true
  | 150 => true
  | 151 => true
  | 161 => true
  | 174 => true
  | 175 => true
  | 199 => true
  | 202 => true
  | 229 => true
  | 235 => true
  | 251 => true
  | 252 => true
  | 253 => true
  | 254 => true
  | 255 => true
  | _ => false
def zfk : Nat → Option Nat
  | 0 => some 13
  | 1 => none
  | 2 => some 14
  | 3 => none
  | 4 => none
  | 5 => none
  | 64 => some 15
  | 65 => some 16
  | 66 => some 17
  | 67 => some 18
  | 68 => none
  | 69 => some 19
  | 70 => none
  | 71 => none
  | 72 => none
  | 128 => none
  | 129 => none
  | 130 => some 20
  | 131 => some 21
  | 132 => some 32
  | 133 => some 33
  | 134 => some 34
  | 135 => some 35
  | 136 => some 36
  | 137 => some 37
  | 138 => some 38
  | 192 => some 39
  | 193 => some 40
  | 194 => some 41
  | 195 => some 42
  | 196 => some 43
  | 197 => none
  | 256 => some 44
  | 257 => some 45
  | 258 => some 46
  | 259 => none
  | 320 => some 47
  | 321 => some 48
  | 322 => none
  | 323 => some 49
  | 324 => none
  | 384 => some 50
  | 385 => none
  | 386 => none
  | 387 => none
  | 388 => none
  | 389 => none
  | 390 => none
  | 448 => some 51
  | 449 => some 52
  | 450 => some 53
  | 451 => some 54
  | 452 => none
  | 512 => some 65
  | 513 => some 66
  | 514 => some 67
  | 515 => some 72
  | 576 => some 73
  | 577 => some 74
  | 578 => some 75
  | 579 => none
  | 580 => none
  | 581 => some 76
  | 582 => none
  | 583 => none
  | 584 => some 77
  | 585 => none
  | 586 => none
  | 640 => some 78
  | 641 => some 79
  | 642 => some 80
  | 643 => some 81
  | 644 => some 82
  | 645 => none
  | 704 => some 10
  | 705 => some 7
  | 706 => some 3
  | 707 => some 4
  | 708 => some 1
  | 709 => some 9
  | 710 => some 8
  | 711 => some 6
  | 712 => some 0
  | 713 => some 2
  | 714 => some 5
  | 715 => none
  | 716 => none
  | 768 => none
  | 769 => none
  | 770 => none
  | 771 => some 93
  | 772 => some 94
  | 773 => some 95
  | 774 => none
  | 775 => some 96
  | 776 => some 97
  | 777 => some 98
  | 778 => some 99
  | 779 => some 100
  | 780 => some 101
  | 781 => some 102
  | 782 => some 103
  | 783 => some 104
  | 784 => some 105
  | 785 => some 106
  | 786 => some 107
  | 787 => none
  | 788 => some 108
  | 789 => some 109
  | 790 => some 110
  | 791 => some 111
  | 792 => some 112
  | 793 => none
  | 794 => some 113
  | 795 => some 114
  | 796 => some 115
  | 797 => none
  | 798 => none
  | 799 => some 116
  | 800 => none
  | 801 => some 117
  | 802 => some 118
  | 803 => some 119
  | 804 => none
  | 805 => some 120
  | 806 => some 121
  | 807 => some 122
  | 808 => some 123
  | 809 => none
  | 810 => none
  | 811 => none
  | 812 => none
  | 813 => none
  | 814 => some 124
  | 815 => some 125
  | 816 => some 126
  | 817 => none
  | 818 => some 127
  | 819 => none
  | 820 => none
  | 821 => none
  | 822 => some 128
  | 823 => some 129
  | 824 => none
  | 825 => some 130
  | 826 => none
  | 827 => none
  | 828 => none
  | 829 => some 131
  | 830 => some 132
  | _ => none
def zNf : Nat → Nat
  | 0 => 6
  | 1 => 9
  | 2 => 11
  | 3 => 6
  | 4 => 4
  | 5 => 5
  | 6 => 7
  | 7 => 5
  | 8 => 4
  | 9 => 11
  | 10 => 6
  | 11 => 13
  | 12 => 63
  | _ => 0
def zar : Nat → Option (Nat × Nat × Nat)
  | 13 => some (0, 4, 0)
  | 14 => some (0, 4, 0)
  | 15 => some (0, 40, 0)
  | 16 => some (0, 40, 0)
  | 17 => some (0, 40, 0)
  | 18 => some (0, 40, 0)
  | 19 => some (0, 602, 0)
  | 20 => some (0, 10, 0)
  | 21 => some (3, 10, 22)
  | 22 => some (0, 10, 0)
  | 23 => some (0, 10, 0)
  | 24 => some (0, 10, 0)
  | 25 => some (0, 10, 0)
  | 26 => some (0, 10, 0)
  | 27 => some (0, 10, 0)
  | 28 => some (0, 10, 0)
  | 29 => some (0, 10, 0)
  | 30 => some (0, 10, 0)
  | 31 => some (0, 10, 0)
  | 32 => some (0, 10, 0)
  | 33 => some (0, 10, 0)
  | 34 => some (0, 21, 0)
  | 35 => some (0, 21, 0)
  | 36 => some (2, 21, 0)
  | 37 => some (2, 21, 0)
  | 38 => some (2, 11, 0)
  | 39 => some (0, 40, 0)
  | 40 => some (0, 40, 0)
  | 41 => some (0, 40, 0)
  | 42 => some (0, 40, 0)
  | 43 => some (0, 40, 0)
  | 44 => some (0, 40, 0)
  | 45 => some (0, 40, 0)
  | 46 => some (0, 40, 0)
  | 47 => some (0, 10, 0)
  | 48 => some (0, 10, 0)
  | 49 => some (0, 10, 0)
  | 50 => some (0, 60, 0)
  | 51 => some (0, 10, 0)
  | 52 => some (0, 10, 0)
  | 53 => some (0, 10, 0)
  | 54 => some (3, 10, 55)
  | 55 => some (0, 10, 0)
  | 56 => some (0, 10, 0)
  | 57 => some (0, 10, 0)
  | 58 => some (0, 10, 0)
  | 59 => some (0, 10, 0)
  | 60 => some (0, 10, 0)
  | 61 => some (0, 10, 0)
  | 62 => some (0, 10, 0)
  | 63 => some (0, 10, 0)
  | 64 => some (0, 10, 0)
  | 65 => some (0, 4, 0)
  | 66 => some (0, 4, 0)
  | 67 => some (3, 4, 68)
  | 68 => some (0, 60, 0)
  | 69 => some (0, 60, 0)
  | 70 => some (0, 60, 0)
  | 71 => some (0, 60, 0)
  | 72 => some (0, 60, 0)
  | 73 => some (0, 40, 0)
  | 74 => some (0, 40, 0)
  | 75 => some (0, 40, 0)
  | 76 => some (0, 1024, 0)
  | 77 => some (0, 2, 0)
  | 78 => some (0, 10, 0)
  | 79 => some (0, 10, 0)
  | 80 => some (0, 10, 0)
  | 81 => some (0, 10, 0)
  | 82 => some (3, 10, 83)
  | 83 => some (0, 20, 0)
  | 84 => some (0, 20, 0)
  | 85 => some (0, 20, 0)
  | 86 => some (0, 20, 0)
  | 87 => some (0, 20, 0)
  | 88 => some (0, 20, 0)
  | 89 => some (0, 20, 0)
  | 90 => some (0, 20, 0)
  | 91 => some (0, 20, 0)
  | 92 => some (0, 20, 0)
  | 93 => some (0, 10, 0)
  | 94 => some (0, 10, 0)
  | 95 => some (0, 10, 0)
  | 96 => some (0, 10, 0)
  | 97 => some (0, 100, 0)
  | 98 => some (1, 100, 0)
  | 99 => some (0, 11264, 0)
  | 100 => some (1, 100, 0)
  | 101 => some (0, 10, 0)
  | 102 => some (1, 100, 0)
  | 103 => some (0, 10, 0)
  | 104 => some (0, 4, 0)
  | 105 => some (0, 4, 0)
  | 106 => some (0, 240, 0)
  | 107 => some (0, 10, 0)
  | 108 => some (0, 40, 0)
  | 109 => some (0, 40, 0)
  | 110 => some (0, 40, 0)
  | 111 => some (0, 40, 0)
  | 112 => some (0, 40, 0)
  | 113 => some (0, 40, 0)
  | 114 => some (0, 40, 0)
  | 115 => some (0, 40, 0)
  | 116 => some (0, 10, 0)
  | 117 => some (0, 1024, 0)
  | 118 => some (0, 1024, 0)
  | 119 => some (0, 1024, 0)
  | 120 => some (0, 40, 0)
  | 121 => some (0, 40, 0)
  | 122 => some (0, 40, 0)
  | 123 => some (0, 40, 0)
  | 124 => some (0, 40, 0)
  | 125 => some (0, 40, 0)
  | 126 => some (0, 40, 0)
  | 127 => some (0, 10, 0)
  | 128 => some (0, 10, 0)
  | 129 => some (0, 200, 0)
  | 130 => some (0, 60, 0)
  | 131 => some (0, 4, 0)
  | 132 => some (0, 4, 0)
  | _ => none
def zLc : Nat → Int64
  | 0 => -9223372036854775808
  | 1 => 4000000000000000000
  | 2 => 10
  | 3 => 1000000000000000
  | 4 => 25937424601
  | 5 => -9223372036854775808
  | _ => 0
def zR : Nat → String
  | 0 => RX0
  | 1 => RX1
  | 2 => RX2
  | 3 => RX3
  | 4 => RX4
  | 5 => RX5
  | 6 => RX6
  | 7 => RX7
  | 8 => RX8
  | 9 => RX9
  | 10 => RX10
  | 11 => RX11
  | 12 => RX12
  | 13 => RL
  | 14 => RJ6
  | 15 => RJ9
  | 16 => RJ7
  | _ => ""
/-- (own class, pool index, field) -/
def zfl : List (Nat × Nat × Nat) := [(0, 9, 0), (0, 15, 1), (0, 19, 2), (0, 22, 3), (0, 25, 4), (0, 28, 5), (0, 61, 196), (0, 66, 195), (0, 69, 194), (1, 11, 64), (1, 15, 65), (1, 18, 66), (1, 21, 67), (1, 24, 68), (1, 28, 69), (1, 31, 70), (1, 34, 71), (1, 37, 72), (2, 13, 128), (2, 19, 129), (2, 22, 130), (2, 28, 131), (2, 31, 132), (2, 34, 133), (2, 37, 134), (2, 40, 135), (2, 43, 136), (2, 47, 137), (2, 50, 138), (2, 53, 452), (2, 56, 645), (2, 57, 448), (2, 60, 641), (2, 67, 451), (3, 11, 192), (3, 15, 193), (3, 18, 194), (3, 21, 195), (3, 24, 196), (3, 27, 197), (4, 11, 256), (4, 15, 257), (4, 18, 258), (4, 21, 259), (5, 9, 320), (5, 17, 321), (5, 20, 322), (5, 24, 323), (5, 27, 324), (5, 36, 197), (5, 41, 194), (5, 44, 195), (5, 47, 192), (5, 50, 193), (6, 9, 384), (6, 15, 385), (6, 22, 387), (6, 25, 388), (6, 28, 389), (6, 31, 390), (6, 55, 643), (6, 60, 644), (7, 11, 448), (7, 15, 449), (7, 18, 450), (7, 25, 451), (7, 28, 452), (8, 11, 512), (8, 15, 513), (8, 20, 514), (8, 23, 515), (9, 11, 576), (9, 15, 577), (9, 18, 578), (9, 21, 579), (9, 26, 580), (9, 31, 581), (9, 34, 582), (9, 37, 583), (9, 40, 584), (9, 43, 585), (9, 46, 586), (9, 55, 642), (10, 11, 640), (10, 15, 641), (10, 18, 642), (10, 29, 645), (11, 12, 704), (11, 21, 705), (11, 28, 706), (11, 35, 707), (11, 42, 708), (11, 49, 709), (11, 56, 710), (11, 63, 711), (11, 70, 712), (11, 77, 713), (11, 84, 714), (11, 88, 715), (11, 92, 716), (11, 112, 451), (11, 116, 449), (11, 124, 640), (11, 127, 641), (11, 130, 642), (11, 133, 643), (11, 136, 193), (11, 139, 197), (11, 146, 256), (11, 147, 259), (11, 148, 64), (11, 149, 68), (11, 150, 576), (11, 151, 579), (11, 152, 448), (11, 161, 192), (11, 178, 132), (11, 198, 450), (11, 202, 194), (11, 205, 195), (11, 208, 196), (11, 239, 452), (11, 250, 515), (11, 253, 645), (11, 270, 71), (11, 273, 72), (11, 287, 578), (11, 294, 585), (11, 297, 577), (11, 304, 580), (11, 318, 644), (11, 327, 384), (11, 329, 385), (11, 330, 386), (11, 339, 387), (11, 342, 388), (11, 348, 389), (11, 351, 390), (11, 364, 1), (11, 365, 0), (11, 372, 512), (11, 378, 514), (12, 7, 771), (12, 13, 772), (12, 16, 773), (12, 19, 775), (12, 22, 776), (12, 25, 777), (12, 29, 778), (12, 32, 779), (12, 35, 780), (12, 38, 781), (12, 41, 782), (12, 44, 783), (12, 47, 784), (12, 50, 785), (12, 53, 786), (12, 56, 788), (12, 59, 789), (12, 62, 790), (12, 65, 791), (12, 68, 792), (12, 71, 794), (12, 74, 795), (12, 77, 796), (12, 80, 799), (12, 83, 801), (12, 86, 802), (12, 89, 803), (12, 92, 805), (12, 95, 806), (12, 98, 807), (12, 101, 808), (12, 104, 814), (12, 107, 815), (12, 110, 816), (12, 114, 817), (12, 118, 818), (12, 121, 822), (12, 124, 823), (12, 127, 825), (12, 130, 829), (12, 133, 830), (12, 136, 768), (12, 146, 770), (12, 149, 774), (12, 159, 787), (12, 173, 793), (12, 176, 804), (12, 179, 813), (12, 258, 798), (12, 261, 797), (12, 267, 800), (12, 283, 809), (12, 286, 810), (12, 299, 811), (12, 302, 812), (12, 317, 819), (12, 323, 820), (12, 326, 821), (12, 342, 824), (12, 345, 826), (12, 348, 827), (12, 351, 828), (12, 379, 769)]
/-- (own class, pool index, method) -/
def zmv : List (Nat × Nat × Nat) := [(0, 37, 1), (0, 51, 2), (0, 54, 3), (0, 58, 4), (1, 40, 8), (1, 50, 12), (1, 53, 10), (1, 57, 13), (1, 61, 16), (1, 65, 9), (1, 68, 17), (1, 72, 19), (1, 75, 20), (2, 63, 64), (2, 79, 25), (2, 83, 22), (2, 89, 26), (2, 92, 27), (2, 96, 28), (2, 100, 29), (2, 113, 31), (2, 116, 32), (2, 119, 33), (2, 129, 35), (4, 31, 48), (5, 53, 51), (5, 67, 54), (5, 75, 55), (6, 34, 57), (6, 51, 56), (7, 32, 63), (8, 32, 68), (9, 58, 76), (9, 62, 77), (9, 65, 78), (9, 75, 81), (9, 79, 75), (11, 100, 83), (11, 104, 62), (11, 107, 61), (11, 111, 82), (11, 120, 139), (11, 155, 63), (11, 158, 140), (11, 164, 21), (11, 168, 24), (11, 171, 23), (11, 175, 30), (11, 181, 138), (11, 184, 36), (11, 187, 37), (11, 191, 40), (11, 195, 39), (11, 201, 38), (11, 211, 141), (11, 214, 41), (11, 218, 44), (11, 221, 43), (11, 222, 45), (11, 226, 46), (11, 229, 42), (11, 232, 47), (11, 235, 65), (11, 240, 69), (11, 243, 136), (11, 246, 49), (11, 254, 50), (11, 258, 52), (11, 261, 7), (11, 262, 11), (11, 265, 14), (11, 267, 12), (11, 276, 15), (11, 279, 18), (11, 282, 74), (11, 285, 73), (11, 286, 72), (11, 290, 75), (11, 300, 79), (11, 307, 80), (11, 311, 70), (11, 314, 71), (11, 335, 56), (11, 345, 59), (11, 354, 60), (11, 358, 137), (11, 361, 0), (11, 368, 66), (11, 375, 68), (11, 384, 144), (11, 387, 145), (11, 390, 143), (11, 393, 147), (11, 396, 146), (11, 399, 34), (11, 403, 64), (11, 405, 6), (11, 409, 142), (12, 152, 153), (12, 156, 152), (12, 162, 158), (12, 166, 159), (12, 182, 164), (12, 185, 165), (12, 188, 168), (12, 191, 170), (12, 195, 169), (12, 198, 167), (12, 201, 171), (12, 204, 148), (12, 207, 178), (12, 210, 179), (12, 216, 173), (12, 220, 176), (12, 223, 177), (12, 230, 181), (12, 234, 180), (12, 240, 185), (12, 244, 184), (12, 247, 189), (12, 250, 190), (12, 253, 192), (12, 264, 195), (12, 273, 200), (12, 280, 204), (12, 289, 205), (12, 292, 206), (12, 296, 207), (12, 305, 208), (12, 308, 209), (12, 311, 212), (12, 314, 213), (12, 320, 217), (12, 329, 218), (12, 332, 219), (12, 335, 220), (12, 339, 226), (12, 357, 230), (12, 361, 231), (12, 368, 236), (12, 371, 237), (12, 375, 149), (12, 382, 244), (13, 13, 84), (13, 17, 154), (13, 18, 85), (13, 22, 155), (13, 23, 86), (13, 26, 156), (13, 27, 87), (13, 31, 157), (13, 32, 88), (13, 36, 160), (13, 37, 89), (13, 40, 162), (13, 41, 90), (13, 44, 163), (13, 45, 91), (13, 49, 166), (13, 50, 92), (13, 53, 172), (13, 54, 93), (13, 57, 182), (13, 58, 94), (13, 62, 183), (13, 63, 95), (13, 66, 186), (13, 67, 96), (13, 70, 187), (13, 71, 97), (13, 74, 188), (13, 75, 98), (13, 78, 191), (13, 79, 99), (13, 82, 193), (13, 83, 100), (13, 86, 194), (13, 87, 101), (13, 90, 196), (13, 91, 102), (13, 94, 197), (13, 95, 103), (13, 98, 198), (13, 99, 104), (13, 103, 201), (13, 104, 105), (13, 107, 203), (13, 108, 106), (13, 111, 210), (13, 112, 107), (13, 115, 211), (13, 116, 108), (13, 119, 214), (13, 120, 109), (13, 123, 215), (13, 124, 110), (13, 127, 216), (13, 128, 111), (13, 131, 221), (13, 132, 112), (13, 135, 222), (13, 136, 113), (13, 139, 223), (13, 140, 114), (13, 143, 224), (13, 144, 115), (13, 148, 225), (13, 149, 116), (13, 152, 227), (13, 153, 117), (13, 156, 228), (13, 157, 118), (13, 161, 232), (13, 162, 119), (13, 166, 233), (13, 167, 120), (13, 170, 234), (13, 171, 121), (13, 174, 238), (13, 175, 122), (13, 178, 239), (13, 179, 123), (13, 182, 240), (13, 183, 124), (13, 186, 241), (13, 187, 125), (13, 190, 242), (13, 191, 126), (13, 194, 243), (13, 195, 127), (13, 198, 245), (13, 199, 128), (13, 202, 246), (13, 203, 129), (13, 206, 247), (13, 207, 130), (13, 210, 248), (13, 211, 131), (13, 214, 249), (13, 215, 132), (13, 218, 250)]
def zms : List (Nat × Nat × Nat) := [(0, 31, 253), (0, 47, 5), (1, 44, 253), (2, 70, 253), (2, 76, 252), (2, 123, 254), (4, 25, 254), (5, 30, 253), (5, 57, 251), (5, 63, 53), (5, 70, 255), (5, 78, 254), (6, 38, 255), (6, 44, 254), (6, 47, 58), (8, 26, 253), (8, 42, 254), (9, 49, 253), (9, 69, 254), (11, 95, 133), (11, 142, 135), (11, 236, 134), (11, 381, 67), (12, 142, 150), (12, 169, 161), (12, 213, 175), (12, 227, 174), (12, 237, 151), (12, 270, 199), (12, 277, 202), (12, 354, 229), (12, 365, 235)]
def zmc : List (Nat × Nat) := [(0, 41), (8, 36), (11, 321)]
def zcn : List (Nat × Nat × Int) := [(11, 99, 1000000), (11, 190, 100000), (11, 217, 65535), (11, 303, 100000000), (12, 113, 1000000), (12, 141, 100000), (12, 257, 65535), (12, 338, 100000000), (14, 265, 1431655765), (14, 266, 858993459), (14, 267, 252645135)]
def zlc : List (Nat × Nat × Nat) := [(11, 333, 0), (2, 87, 1), (2, 107, 2), (2, 109, 3), (2, 111, 4), (12, 139, 5)]
