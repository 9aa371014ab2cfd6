/-! TABLES, by program (wip/whole/gen3.py): each method cut into blocks; branch targets are block numbers, fields 64 * class + slot, methods by number -/
def zB_0 : List (List Instr × List Nat) := [
  ([.aload 0, .getfield 2, .sipush (-9), .invokestatic 253, .aload 0, .sipush 0, .putfield 3, .aload 0, .sipush (-9), .putfield 4, .aload 0, .sipush 0, .putfield 5, .sipush 0, .istore 3], [0, 1, 4, 6, 9, 10, 11, 14, 15, 17, 20, 21, 22, 25, 26, 27]),
  ([.iload 3, .iload 2, .if_icmp .ge 3, .aload 0, .aload 1, .iload 3, .iaload, .invokevirtual 1, .ifCond .ne 2, .iload 3, .ireturn], [27, 28, 29, 32, 33, 34, 35, 36, 39, 42, 43, 44]),
  ([.iinc 3 1, .goto 1], [44, 47, 50]),
  ([.iload 2, .ifCond .le 4, .aload 0, .getfield 5, .ifCond .ne 4, .iload 2, .ireturn], [50, 51, 54, 55, 58, 61, 62, 63]),
  ([.aload 0, .getfield 2, .sipush 0, .aload 0, .getfield 0, .sipush 0, .aload 0, .getfield 2, .arraylength, .invokestatic 999, .aload 0, .aload 0, .getfield 3, .putfield 1, .sipush (-1), .ireturn], [63, 64, 67, 68, 69, 72, 73, 74, 77, 78, 81, 82, 83, 86, 89, 90, 91])]
def zB_1 : List (List Instr × List Nat) := [
  ([.aload 0, .getfield 4, .sipush (-9), .if_icmp .ne 1, .aload 0, .iload 1, .invokestatic 5, .invokevirtual 2, .ireturn], [0, 1, 4, 6, 9, 10, 11, 14, 17, 18]),
  ([.iload 1, .sipush 59, .if_icmp .ne 2, .aload 0, .invokevirtual 3, .ireturn], [18, 19, 21, 24, 25, 28, 29]),
  ([.iload 1, .sipush 48, .if_icmp .lt 3, .iload 1, .sipush 57, .if_icmp .gt 3, .aload 0, .iload 1, .sipush 48, .isub, .invokevirtual 4, .ifCond .eq 3, .sipush 1, .goto 4], [29, 30, 32, 35, 36, 38, 41, 42, 43, 45, 46, 49, 52, 53, 56]),
  ([.sipush 0], [56, 57]),
  ([.ireturn], [57, 58])]
def zB_2 : List (List Instr × List Nat) := [
  ([.iload 1, .sipush (-9), .if_icmp .eq 1, .aload 0, .getfield 2, .iload 1, .iaload, .sipush (-9), .if_icmp .eq 2], [0, 1, 3, 6, 7, 10, 11, 12, 14, 17]),
  ([.sipush 0, .ireturn], [17, 18, 19]),
  ([.aload 0, .iload 1, .putfield 4, .aload 0, .getfield 2, .iload 1, .sipush 0, .iastore, .aload 0, .dup, .getfield 3, .sipush 1, .iadd, .putfield 3, .sipush 1, .ireturn], [19, 20, 21, 24, 25, 28, 29, 30, 31, 32, 33, 36, 37, 38, 41, 42, 43])]
def zB_3 : List (List Instr × List Nat) := [
  ([.aload 0, .getfield 5, .ifCond .eq 1, .aload 0, .getfield 3, .sipush 3, .if_icmp .le 2], [0, 1, 4, 7, 8, 11, 12, 15]),
  ([.sipush 0, .ireturn], [15, 16, 17]),
  ([.aload 0, .sipush (-9), .putfield 4, .aload 0, .sipush 0, .putfield 5, .sipush 1, .ireturn], [17, 18, 20, 23, 24, 25, 28, 29, 30])]
def zB_4 : List (List Instr × List Nat) := [
  ([.aload 0, .getfield 5, .sipush 3, .if_icmp .eq 1, .aload 0, .getfield 5, .ifCond .le 2, .aload 0, .getfield 2, .aload 0, .getfield 4, .iaload, .ifCond .ne 2], [0, 1, 4, 5, 8, 9, 12, 15, 16, 19, 20, 23, 24, 27]),
  ([.sipush 0, .ireturn], [27, 28, 29]),
  ([.aload 0, .getfield 2, .aload 0, .getfield 4, .sipush 10, .aload 0, .getfield 2, .aload 0, .getfield 4, .iaload, .imul, .iload 1, .iadd, .iastore, .aload 0, .dup, .getfield 5, .sipush 1, .iadd, .putfield 5, .sipush 1, .ireturn], [29, 30, 33, 34, 37, 39, 40, 43, 44, 47, 48, 49, 50, 51, 52, 53, 54, 57, 58, 59, 62, 63, 64])]
def zB_5 : List (List Instr × List Nat) := [
  ([.iload 0, .lookupswitch 5 #[(65, 1), (66, 2), (72, 3), (89, 4)]], [0, 1, 44]),
  ([.sipush 0, .ireturn], [44, 45, 46]),
  ([.sipush 1, .ireturn], [46, 47, 48]),
  ([.sipush 2, .ireturn], [48, 49, 50]),
  ([.sipush 3, .ireturn], [50, 51, 52]),
  ([.sipush (-9), .ireturn], [52, 54, 55])]
def zB_6 : List (List Instr × List Nat) := [
  ([.sipush 0, .istore 5, .aload 0, .getfield 0, .sipush 0, .iaload, .sipush (-9), .if_icmp .eq 1, .iload 3, .aload 0, .getfield 0, .sipush 0, .iaload, .if_icmp .le 1, .iload 5, .sipush 1, .ior, .istore 5], [0, 1, 3, 4, 7, 8, 9, 11, 14, 15, 16, 19, 20, 21, 24, 26, 27, 28, 30]),
  ([.aload 0, .getfield 0, .sipush 1, .iaload, .sipush (-9), .if_icmp .eq 3, .aload 1, .getfield 196, .iload 2, .iaload, .sipush (-9), .if_icmp .eq 2, .aload 1, .getfield 195, .iload 2, .iaload, .aload 1, .getfield 196, .iload 2, .iaload, .isub, .aload 0, .getfield 0, .sipush 1, .iaload, .if_icmp .ge 3], [30, 31, 34, 35, 36, 38, 41, 42, 45, 46, 47, 49, 52, 53, 56, 57, 58, 59, 62, 63, 64, 65, 66, 69, 70, 71, 74]),
  ([.iload 5, .sipush 2, .ior, .istore 5], [74, 76, 77, 78, 80]),
  ([.aload 0, .getfield 0, .sipush 2, .iaload, .sipush (-9), .if_icmp .eq 4, .iload 4, .aload 0, .getfield 0, .sipush 2, .iaload, .if_icmp .ge 4, .iload 5, .sipush 4, .ior, .istore 5], [80, 81, 84, 85, 86, 88, 91, 93, 94, 97, 98, 99, 102, 104, 105, 106, 108]),
  ([.aload 0, .getfield 0, .sipush 3, .iaload, .sipush (-9), .if_icmp .eq 5, .aload 1, .getfield 195, .iload 2, .iaload, .aload 1, .getfield 194, .iload 2, .iaload, .isub, .sipush 1, .iadd, .aload 0, .getfield 0, .sipush 3, .iaload, .if_icmp .le 5, .iload 5, .sipush 8, .ior, .istore 5], [108, 109, 112, 113, 114, 116, 119, 120, 123, 124, 125, 126, 129, 130, 131, 132, 133, 134, 135, 138, 139, 140, 143, 145, 147, 148, 150]),
  ([.iload 5, .ireturn], [150, 152, 153])]
def zB_7 : List (List Instr × List Nat) := [
  ([.aload 0, .getfield 68, .sipush 40, .if_icmp .lt 1, .sipush (-4), .ireturn], [0, 1, 4, 6, 9, 11, 12]),
  ([.aload 0, .getfield 64, .aload 0, .getfield 68, .iload 1, .iastore, .aload 0, .getfield 65, .aload 0, .getfield 68, .iload 2, .iastore, .aload 0, .getfield 66, .aload 0, .getfield 68, .iload 3, .iastore, .aload 0, .getfield 67, .aload 0, .getfield 68, .iload 4, .iastore, .aload 0, .dup, .getfield 68, .dup_x1, .sipush 1, .iadd, .putfield 68, .ireturn], [12, 13, 16, 17, 20, 21, 22, 23, 26, 27, 30, 31, 32, 33, 36, 37, 40, 41, 42, 43, 46, 47, 50, 52, 53, 54, 55, 58, 59, 60, 61, 64, 65])]
def zB_8 : List (List Instr × List Nat) := [
  ([.aload 0, .getfield 66, .iload 1, .iaload, .iload 2, .if_icmp .gt 1, .aload 0, .getfield 67, .iload 1, .iaload, .iload 2, .if_icmp .lt 1, .sipush 1, .goto 2], [0, 1, 4, 5, 6, 7, 10, 11, 14, 15, 16, 17, 20, 21, 24]),
  ([.sipush 0], [24, 25]),
  ([.ireturn], [25, 26])]
def zB_9 : List (List Instr × List Nat) := [
  ([.sipush 0, .istore 3], [0, 1, 2]),
  ([.iload 3, .aload 0, .getfield 68, .if_icmp .ge 3, .aload 0, .getfield 64, .iload 3, .iaload, .iload 1, .if_icmp .ne 2, .aload 0, .iload 3, .iload 2, .invokevirtual 8, .ifCond .eq 2, .sipush 1, .ireturn], [2, 3, 4, 7, 10, 11, 14, 15, 16, 17, 20, 21, 22, 23, 26, 29, 30, 31]),
  ([.iinc 3 1, .goto 1], [31, 34, 37]),
  ([.sipush 0, .ireturn], [37, 38, 39])]
def zB_10 : List (List Instr × List Nat) := [
  ([.aload 0, .getfield 69, .sipush 0, .invokestatic 253, .sipush 0, .istore 2], [0, 1, 4, 5, 8, 9, 10]),
  ([.iload 2, .aload 0, .getfield 68, .if_icmp .ge 3, .aload 0, .getfield 64, .iload 2, .iaload, .iload 1, .if_icmp .ne 2, .aload 0, .getfield 69, .aload 0, .getfield 66, .iload 2, .iaload, .sipush 1500, .isub, .dup2, .iaload, .sipush 1, .iadd, .iastore, .aload 0, .getfield 69, .aload 0, .getfield 67, .iload 2, .iaload, .sipush 1500, .isub, .sipush 1, .iadd, .dup2, .iaload, .sipush 1, .isub, .iastore], [10, 11, 12, 15, 18, 19, 22, 23, 24, 25, 28, 29, 32, 33, 36, 37, 38, 41, 42, 43, 44, 45, 46, 47, 48, 51, 52, 55, 56, 57, 60, 61, 62, 63, 64, 65, 66, 67, 68]),
  ([.iinc 2 1, .goto 1], [68, 71, 74]),
  ([.return_], [74, 75])]
def zB_11 : List (List Instr × List Nat) := [
  ([.aload 0, .iload 1, .sipush 0, .invokevirtual 12, .pop, .aload 0, .getfield 70, .ireturn], [0, 1, 2, 3, 6, 7, 8, 11, 12])]
def zB_12 : List (List Instr × List Nat) := [
  ([.aload 0, .iload 1, .invokevirtual 10, .aload 0, .sipush 0, .putfield 70, .sipush 0, .istore 3, .sipush (-1), .istore 4, .sipush 0, .istore 5], [0, 1, 2, 5, 6, 7, 10, 11, 12, 13, 15, 16, 18]),
  ([.iload 5, .sipush 601, .if_icmp .ge 4, .iload 3, .aload 0, .getfield 69, .iload 5, .iaload, .iadd, .istore 3, .iload 3, .ifCond .le 3, .iload 4, .sipush (-1), .if_icmp .eq 2, .iload 4, .iload 5, .sipush 1, .isub, .if_icmp .ge 2, .aload 0, .iload 2, .iload 4, .sipush 1, .iadd, .iload 5, .sipush 1, .isub, .invokevirtual 13], [18, 20, 23, 26, 27, 28, 31, 33, 34, 35, 36, 37, 40, 42, 43, 46, 48, 50, 51, 52, 55, 56, 57, 59, 60, 61, 63, 64, 65, 68]),
  ([.iload 5, .istore 4], [68, 70, 72]),
  ([.iinc 5 1, .goto 1], [72, 75, 78]),
  ([.iload 2, .aload 0, .getfield 70, .if_icmp .ge 5, .sipush 1, .goto 6], [78, 79, 80, 83, 86, 87, 90]),
  ([.sipush 0], [90, 91]),
  ([.ireturn], [91, 92])]
def zB_13 : List (List Instr × List Nat) := [
  ([.aload 0, .getfield 70, .iload 1, .if_icmp .ne 1, .aload 0, .sipush 1500, .iload 2, .iadd, .putfield 71, .aload 0, .sipush 1500, .iload 3, .iadd, .putfield 72], [0, 1, 4, 5, 8, 9, 12, 13, 14, 17, 18, 21, 22, 23, 26]),
  ([.aload 0, .dup, .getfield 70, .sipush 1, .iadd, .putfield 70, .return_], [26, 27, 28, 31, 32, 33, 36, 37])]
def zB_14 : List (List Instr × List Nat) := [
  ([.sipush 0, .istore 2, .sipush 0, .istore 3], [0, 1, 2, 3, 4]),
  ([.iload 3, .aload 0, .getfield 68, .if_icmp .ge 5, .sipush 0, .istore 4], [4, 5, 6, 9, 12, 13, 15]),
  ([.iload 4, .iload 3, .if_icmp .ge 4, .aload 0, .getfield 64, .iload 3, .iaload, .iload 1, .if_icmp .ne 3, .aload 0, .getfield 64, .iload 4, .iaload, .iload 1, .if_icmp .ne 3, .aload 0, .getfield 65, .iload 3, .iaload, .aload 0, .getfield 65, .iload 4, .iaload, .if_icmp .eq 3, .aload 0, .getfield 66, .iload 3, .iaload, .aload 0, .getfield 67, .iload 4, .iaload, .if_icmp .gt 3, .aload 0, .getfield 66, .iload 4, .iaload, .aload 0, .getfield 67, .iload 3, .iaload, .if_icmp .gt 3, .iinc 2 1], [15, 17, 18, 21, 22, 25, 26, 27, 28, 31, 32, 35, 37, 38, 39, 42, 43, 46, 47, 48, 49, 52, 54, 55, 58, 59, 62, 63, 64, 65, 68, 70, 71, 74, 75, 78, 80, 81, 82, 85, 86, 87, 90, 93]),
  ([.iinc 4 1, .goto 2], [93, 96, 99]),
  ([.iinc 3 1, .goto 1], [99, 102, 105]),
  ([.iload 2, .ireturn], [105, 106, 107])]
def zB_15 : List (List Instr × List Nat) := [
  ([.aload 0, .iload 1, .iload 2, .iload 3, .invokevirtual 16, .istore 4, .iload 4, .sipush (-1), .if_icmp .eq 1, .aload 0, .iload 1, .aload 0, .getfield 67, .iload 4, .iaload, .sipush 1, .iadd, .invokevirtual 9, .ifCond .eq 2], [0, 1, 2, 3, 4, 7, 9, 11, 12, 15, 16, 17, 18, 21, 23, 24, 25, 26, 29, 32]),
  ([.sipush 0, .ireturn], [32, 33, 34]),
  ([.aload 0, .iload 1, .iload 3, .invokevirtual 17, .istore 5, .iload 5, .sipush (-1), .if_icmp .eq 3, .aload 0, .getfield 65, .iload 5, .iaload, .iload 2, .if_icmp .eq 3, .sipush 1, .goto 4], [34, 35, 36, 37, 40, 42, 44, 45, 48, 49, 52, 54, 55, 56, 59, 60, 63]),
  ([.sipush 0], [63, 64]),
  ([.ireturn], [64, 65])]
def zB_16 : List (List Instr × List Nat) := [
  ([.sipush 0, .istore 4], [0, 1, 3]),
  ([.iload 4, .aload 0, .getfield 68, .if_icmp .ge 3, .aload 0, .getfield 64, .iload 4, .iaload, .iload 1, .if_icmp .ne 2, .aload 0, .getfield 65, .iload 4, .iaload, .iload 2, .if_icmp .ne 2, .aload 0, .iload 4, .iload 3, .invokevirtual 8, .ifCond .eq 2, .iload 4, .ireturn], [3, 5, 6, 9, 12, 13, 16, 18, 19, 20, 23, 24, 27, 29, 30, 31, 34, 35, 37, 38, 41, 44, 46, 47]),
  ([.iinc 4 1, .goto 1], [47, 50, 53]),
  ([.sipush (-1), .ireturn], [53, 54, 55])]
def zB_17 : List (List Instr × List Nat) := [
  ([.sipush (-1), .istore 3, .sipush 0, .istore 4], [0, 1, 2, 3, 5]),
  ([.iload 4, .aload 0, .getfield 68, .if_icmp .ge 4, .aload 0, .getfield 64, .iload 4, .iaload, .iload 1, .if_icmp .ne 3, .aload 0, .getfield 66, .iload 4, .iaload, .iload 2, .if_icmp .le 3, .iload 3, .sipush (-1), .if_icmp .eq 2, .aload 0, .getfield 66, .iload 4, .iaload, .aload 0, .getfield 66, .iload 3, .iaload, .if_icmp .ge 3], [5, 7, 8, 11, 14, 15, 18, 20, 21, 22, 25, 26, 29, 31, 32, 33, 36, 37, 38, 41, 42, 45, 47, 48, 49, 52, 53, 54, 57]),
  ([.iload 4, .istore 3], [57, 59, 60]),
  ([.iinc 4 1, .goto 1], [60, 63, 66]),
  ([.iload 3, .ireturn], [66, 67, 68])]
def zB_18 : List (List Instr × List Nat) := [
  ([.aload 0, .iload 1, .iload 3, .invokevirtual 9, .ifCond .ne 1, .aload 0, .iload 1, .iload 3, .invokevirtual 19, .ireturn], [0, 1, 2, 3, 6, 9, 10, 11, 12, 15, 16]),
  ([.aload 0, .iload 1, .iload 2, .iload 3, .invokevirtual 16, .sipush (-1), .if_icmp .eq 2, .aload 0, .iload 1, .iload 2, .iload 3, .invokevirtual 20, .ifCond .eq 2, .sipush 1, .goto 3], [16, 17, 18, 19, 20, 23, 24, 27, 28, 29, 30, 31, 34, 37, 38, 41]),
  ([.sipush 0], [41, 42]),
  ([.ireturn], [42, 43])]
def zB_19 : List (List Instr × List Nat) := [
  ([.sipush 0, .istore 3, .sipush 0, .istore 4, .sipush 0, .istore 5], [0, 1, 2, 3, 5, 6, 8]),
  ([.iload 5, .aload 0, .getfield 68, .if_icmp .ge 9, .aload 0, .getfield 64, .iload 5, .iaload, .iload 1, .if_icmp .ne 8, .iload 3, .ifCond .ne 2, .aload 0, .getfield 67, .iload 5, .iaload, .iload 2, .if_icmp .ge 3], [8, 10, 11, 14, 17, 18, 21, 23, 24, 25, 28, 29, 32, 33, 36, 38, 39, 40, 43]),
  ([.sipush 1, .goto 4], [43, 44, 47]),
  ([.sipush 0], [47, 48]),
  ([.istore 3, .iload 4, .ifCond .ne 5, .aload 0, .getfield 66, .iload 5, .iaload, .iload 2, .if_icmp .le 6], [48, 49, 51, 54, 55, 58, 60, 61, 62, 65]),
  ([.sipush 1, .goto 7], [65, 66, 69]),
  ([.sipush 0], [69, 70]),
  ([.istore 4], [70, 72]),
  ([.iinc 5 1, .goto 1], [72, 75, 78]),
  ([.iload 3, .ifCond .eq 10, .iload 4, .ifCond .eq 10, .sipush 1, .goto 11], [78, 79, 82, 84, 87, 88, 91]),
  ([.sipush 0], [91, 92]),
  ([.ireturn], [92, 93])]
def zB_20 : List (List Instr × List Nat) := [
  ([.sipush 0, .istore 4], [0, 1, 3]),
  ([.iload 4, .aload 0, .getfield 68, .if_icmp .ge 3, .aload 0, .getfield 64, .iload 4, .iaload, .iload 1, .if_icmp .ne 2, .aload 0, .getfield 65, .iload 4, .iaload, .iload 2, .if_icmp .eq 2, .aload 0, .iload 4, .iload 3, .invokevirtual 8, .ifCond .eq 2, .sipush 1, .ireturn], [3, 5, 6, 9, 12, 13, 16, 18, 19, 20, 23, 24, 27, 29, 30, 31, 34, 35, 37, 38, 41, 44, 45, 46]),
  ([.iinc 4 1, .goto 1], [46, 49, 52]),
  ([.sipush 0, .ireturn], [52, 53, 54])]
def zB_21 : List (List Instr × List Nat) := [
  ([.aload 0, .aload 1, .getfield 452, .putfield 128, .aload 0, .aload 2, .getfield 645, .putfield 129, .sipush 0, .istore 3], [0, 1, 2, 5, 8, 9, 10, 13, 16, 17, 18]),
  ([.iload 3, .aload 0, .getfield 128, .if_icmp .ge 6, .aload 0, .getfield 130, .iload 3, .aload 1, .getfield 448, .iload 3, .iaload, .iastore, .sipush 0, .istore 4], [18, 19, 20, 23, 26, 27, 30, 31, 32, 35, 36, 37, 38, 39, 41]),
  ([.iload 4, .aload 0, .getfield 129, .if_icmp .ge 5, .aload 0, .getfield 131, .iload 3, .aaload, .iload 4, .aload 1, .iload 3, .iload 4, .aload 2, .getfield 641, .iload 4, .iaload, .invokevirtual 64, .ifCond .eq 3, .aload 1, .getfield 451, .iload 3, .aaload, .iload 4, .iaload, .goto 4], [41, 43, 44, 47, 50, 51, 54, 55, 56, 58, 59, 60, 62, 63, 66, 68, 69, 72, 75, 76, 79, 80, 81, 83, 84, 87]),
  ([.sipush 0], [87, 88]),
  ([.iastore, .iinc 4 1, .goto 2], [88, 89, 92, 95]),
  ([.iinc 3 1, .goto 1], [95, 98, 101]),
  ([.aload 0, .getfield 132, .sipush (-1), .invokestatic 253, .aload 0, .getfield 133, .sipush (-1), .invokestatic 253, .return_], [101, 102, 105, 106, 109, 110, 113, 114, 117, 118])]
def zB_22 : List (List Instr × List Nat) := [
  ([.aload 0, .getfield 132, .iload 1, .iload 2, .iastore, .aload 0, .getfield 133, .iload 2, .iload 1, .iastore, .return_], [0, 1, 4, 5, 6, 7, 8, 11, 12, 13, 14, 15])]
def zB_23 : List (List Instr × List Nat) := [
  ([.sipush 0, .istore 1, .sipush 0, .istore 2], [0, 1, 2, 3, 4]),
  ([.iload 2, .aload 0, .getfield 128, .if_icmp .ge 3, .aload 0, .getfield 132, .iload 2, .iaload, .ifCond .lt 2, .iload 1, .aload 0, .getfield 131, .iload 2, .aaload, .aload 0, .getfield 132, .iload 2, .iaload, .iaload, .iadd, .istore 1], [4, 5, 6, 9, 12, 13, 16, 17, 18, 21, 22, 23, 26, 27, 28, 29, 32, 33, 34, 35, 36, 37]),
  ([.iinc 2 1, .goto 1], [37, 40, 43]),
  ([.iload 1, .ireturn], [43, 44, 45])]
def zB_24 : List (List Instr × List Nat) := [
  ([.aload 0, .getfield 134, .sipush 0, .invokestatic 253, .aload 0, .getfield 137, .lconst 0, .invokestatic 252, .aload 0, .getfield 138, .lconst 0, .invokestatic 252, .sipush 1, .istore 1], [0, 1, 4, 5, 8, 9, 12, 13, 16, 17, 20, 21, 24, 25, 26]),
  ([.iload 1, .aload 0, .getfield 128, .if_icmp .gt 2, .aload 0, .iload 1, .invokevirtual 25, .iinc 1 1, .goto 1], [26, 27, 28, 31, 34, 35, 36, 39, 42, 45]),
  ([.sipush 1, .istore 1], [45, 46, 47]),
  ([.iload 1, .aload 0, .getfield 129, .if_icmp .gt 5, .aload 0, .getfield 134, .iload 1, .iaload, .ifCond .le 4, .aload 0, .getfield 131, .aload 0, .getfield 134, .iload 1, .iaload, .sipush 1, .isub, .aaload, .iload 1, .sipush 1, .isub, .iaload, .ifCond .le 4, .aload 0, .aload 0, .getfield 134, .iload 1, .iaload, .sipush 1, .isub, .iload 1, .sipush 1, .isub, .invokevirtual 22], [47, 48, 49, 52, 55, 56, 59, 60, 61, 64, 65, 68, 69, 72, 73, 74, 75, 76, 77, 78, 79, 80, 81, 84, 85, 86, 89, 90, 91, 92, 93, 94, 95, 96, 99]),
  ([.iinc 1 1, .goto 3], [99, 102, 105]),
  ([.return_], [105, 106])]
def zB_25 : List (List Instr × List Nat) := [
  ([.aload 0, .getfield 136, .ldc2_w 1, .invokestatic 252, .aload 0, .getfield 134, .sipush 0, .iload 1, .iastore, .sipush 0, .istore 2, .sipush 0, .istore 3, .sipush 0, .istore 4], [0, 1, 4, 7, 10, 11, 14, 15, 16, 17, 18, 19, 20, 21, 22, 24]),
  ([.iload 4, .sipush 20, .if_icmp .gt 2, .aload 0, .getfield 134, .iload 2, .iaload, .ifCond .eq 2, .iload 3, .sipush 1, .iload 2, .ishl, .ior, .istore 3, .aload 0, .iload 2, .iload 3, .invokevirtual 26, .aload 0, .iload 3, .invokevirtual 27, .istore 5, .aload 0, .aload 0, .getfield 136, .iload 5, .laload, .iload 3, .invokevirtual 28, .iload 5, .istore 2, .iinc 4 1, .goto 1], [24, 26, 28, 31, 32, 35, 36, 37, 40, 41, 42, 43, 44, 45, 46, 47, 48, 49, 52, 53, 54, 57, 59, 60, 61, 64, 66, 67, 68, 71, 73, 74, 77, 80]),
  ([.sipush 0, .istore 4], [80, 81, 83]),
  ([.iload 4, .sipush 20, .if_icmp .gt 4, .iload 2, .ifCond .eq 4, .aload 0, .getfield 134, .iload 2, .aload 0, .getfield 134, .aload 0, .getfield 135, .iload 2, .iaload, .iaload, .iastore, .aload 0, .getfield 135, .iload 2, .iaload, .istore 2, .iinc 4 1, .goto 3], [83, 85, 87, 90, 91, 94, 95, 98, 99, 100, 103, 104, 107, 108, 109, 110, 111, 112, 115, 116, 117, 118, 121, 124]),
  ([.return_], [124, 125])]
def zB_26 : List (List Instr × List Nat) := [
  ([.aload 0, .getfield 134, .iload 1, .iaload, .istore 3, .sipush 1, .istore 4], [0, 1, 4, 5, 6, 7, 8, 10]),
  ([.iload 4, .aload 0, .getfield 129, .aload 0, .getfield 128, .iadd, .if_icmp .gt 3, .aload 0, .iload 3, .iload 4, .invokevirtual 29, .aload 0, .getfield 138, .iload 3, .laload, .lsub, .aload 0, .getfield 137, .iload 4, .laload, .lsub, .lstore 5, .iload 2, .iload 4, .ishr, .sipush 1, .iand, .ifCond .ne 2, .lload 5, .aload 0, .getfield 136, .iload 4, .laload, .lcmp, .ifCond .ge 2, .aload 0, .getfield 136, .iload 4, .lload 5, .lastore, .aload 0, .getfield 135, .iload 4, .iload 1, .iastore], [10, 12, 13, 16, 17, 20, 21, 24, 25, 26, 28, 31, 32, 35, 36, 37, 38, 39, 42, 44, 45, 46, 48, 49, 51, 52, 53, 54, 57, 59, 60, 63, 65, 66, 67, 70, 71, 74, 76, 78, 79, 80, 83, 85, 86, 87]),
  ([.iinc 4 1, .goto 1], [87, 90, 93]),
  ([.return_], [93, 94])]
def zB_27 : List (List Instr × List Nat) := [
  ([.sipush 0, .istore 2, .sipush 1, .istore 3], [0, 1, 2, 3, 4]),
  ([.iload 3, .aload 0, .getfield 129, .aload 0, .getfield 128, .iadd, .if_icmp .gt 4, .iload 1, .iload 3, .ishr, .sipush 1, .iand, .ifCond .ne 3, .iload 2, .ifCond .eq 2, .aload 0, .getfield 136, .iload 3, .laload, .aload 0, .getfield 136, .iload 2, .laload, .lcmp, .ifCond .ge 3], [4, 5, 6, 9, 10, 13, 14, 17, 18, 19, 20, 21, 22, 25, 26, 29, 30, 33, 34, 35, 36, 39, 40, 41, 42, 45]),
  ([.iload 3, .istore 2], [45, 46, 47]),
  ([.iinc 3 1, .goto 1], [47, 50, 53]),
  ([.iload 2, .ireturn], [53, 54, 55])]
def zB_28 : List (List Instr × List Nat) := [
  ([.sipush 0, .istore 4], [0, 1, 3]),
  ([.iload 4, .aload 0, .getfield 129, .aload 0, .getfield 128, .iadd, .if_icmp .gt 4, .iload 3, .iload 4, .ishr, .sipush 1, .iand, .ifCond .ne 2, .aload 0, .getfield 136, .iload 4, .dup2, .laload, .lload 1, .lsub, .lastore, .goto 3], [3, 5, 6, 9, 10, 13, 14, 17, 18, 20, 21, 22, 23, 26, 27, 30, 32, 33, 34, 35, 36, 37, 40]),
  ([.aload 0, .getfield 138, .aload 0, .getfield 134, .iload 4, .iaload, .dup2, .laload, .lload 1, .ladd, .lastore, .aload 0, .getfield 137, .iload 4, .dup2, .laload, .lload 1, .lsub, .lastore], [40, 41, 44, 45, 48, 50, 51, 52, 53, 54, 55, 56, 57, 60, 62, 63, 64, 65, 66, 67]),
  ([.iinc 4 1, .goto 1], [67, 70, 73]),
  ([.return_], [73, 74])]
def zB_29 : List (List Instr × List Nat) := [
  ([.getstatic 104, .iload 1, .sipush 1, .isub, .laload, .lstore 3, .iload 2, .aload 0, .getfield 129, .if_icmp .le 1, .ldc2_w 2, .lload 3, .lmul, .lreturn], [0, 3, 4, 5, 6, 7, 8, 9, 10, 13, 16, 19, 20, 21, 22]),
  ([.aload 0, .getfield 131, .iload 1, .sipush 1, .isub, .aaload, .iload 2, .sipush 1, .isub, .iaload, .istore 5, .iload 5, .ifCond .ne 2, .ldc2_w 3, .goto 3], [22, 23, 26, 27, 28, 29, 30, 31, 32, 33, 34, 36, 38, 41, 44, 47]),
  ([.iload 2, .sipush 1, .isub, .i2l, .lload 3, .lmul, .iload 5, .i2l, .ldc2_w 4, .lmul, .lsub], [47, 48, 49, 50, 51, 52, 53, 55, 56, 59, 60, 61]),
  ([.lreturn], [61, 62])]
def zB_30 : List (List Instr × List Nat) := [
  ([.sipush 0, .istore 1, .sipush 0, .istore 2], [0, 1, 2, 3, 4]),
  ([.iload 2, .aload 0, .getfield 128, .if_icmp .ge 3, .aload 0, .iload 1, .invokevirtual 31, .istore 3, .aload 0, .iload 3, .invokevirtual 32, .istore 4, .iload 4, .sipush (-1), .if_icmp .eq 2, .aload 0, .iload 3, .iload 4, .invokevirtual 22], [4, 5, 6, 9, 12, 13, 14, 17, 18, 19, 20, 23, 25, 27, 28, 31, 32, 33, 35, 38]),
  ([.iload 1, .sipush 1, .iload 3, .ishl, .ior, .istore 1, .iinc 2 1, .goto 1], [38, 39, 40, 41, 42, 43, 44, 47, 50]),
  ([.return_], [50, 51])]
def zB_31 : List (List Instr × List Nat) := [
  ([.sipush (-1), .istore 2, .sipush 0, .istore 3], [0, 1, 2, 3, 4]),
  ([.iload 3, .aload 0, .getfield 128, .if_icmp .ge 4, .iload 1, .iload 3, .ishr, .sipush 1, .iand, .ifCond .ne 3, .iload 2, .sipush (-1), .if_icmp .eq 2, .aload 0, .iload 3, .iload 2, .invokevirtual 33, .ifCond .eq 3], [4, 5, 6, 9, 12, 13, 14, 15, 16, 17, 20, 21, 22, 25, 26, 27, 28, 31, 34]),
  ([.iload 3, .istore 2], [34, 35, 36]),
  ([.iinc 3 1, .goto 1], [36, 39, 42]),
  ([.iload 2, .sipush 0, .invokestatic 998, .ireturn], [42, 43, 44, 47, 48])]
def zB_32 : List (List Instr × List Nat) := [
  ([.sipush (-1), .istore 2, .sipush 0, .istore 3, .sipush 0, .istore 4], [0, 1, 2, 3, 4, 5, 7]),
  ([.iload 4, .aload 0, .getfield 129, .if_icmp .ge 3, .aload 0, .getfield 133, .iload 4, .iaload, .sipush (-1), .if_icmp .ne 2, .aload 0, .getfield 131, .iload 1, .aaload, .iload 4, .iaload, .iload 3, .if_icmp .le 2, .iload 4, .istore 2, .aload 0, .getfield 131, .iload 1, .aaload, .iload 4, .iaload, .istore 3], [7, 9, 10, 13, 16, 17, 20, 22, 23, 24, 27, 28, 31, 32, 33, 35, 36, 37, 40, 42, 43, 44, 47, 48, 49, 51, 52, 53]),
  ([.iinc 4 1, .goto 1], [53, 56, 59]),
  ([.iload 2, .ireturn], [59, 60, 61])]
def zB_33 : List (List Instr × List Nat) := [
  ([.aload 0, .getfield 130, .iload 1, .iaload, .aload 0, .getfield 130, .iload 2, .iaload, .if_icmp .gt 1, .aload 0, .getfield 130, .iload 1, .iaload, .aload 0, .getfield 130, .iload 2, .iaload, .if_icmp .ne 2, .iload 1, .iload 2, .if_icmp .ge 2], [0, 1, 4, 5, 6, 7, 10, 11, 12, 15, 16, 19, 20, 21, 22, 25, 26, 27, 30, 31, 32, 35]),
  ([.sipush 1, .goto 3], [35, 36, 39]),
  ([.sipush 0], [39, 40]),
  ([.ireturn], [40, 41])]
def zB_34 : List (List Instr × List Nat) := [
  ([.sipush 0, .istore 2], [0, 1, 2]),
  ([.iload 2, .aload 0, .getfield 128, .if_icmp .ge 5, .aload 1, .iload 2, .iaload, .istore 3, .iload 3, .sipush (-1), .if_icmp .eq 4, .iload 3, .ifCond .lt 2, .iload 3, .aload 0, .getfield 129, .if_icmp .ge 2, .aload 0, .getfield 131, .iload 2, .aaload, .iload 3, .iaload, .ifCond .eq 2, .aload 0, .getfield 133, .iload 3, .iaload, .sipush (-1), .if_icmp .eq 3], [2, 3, 4, 7, 10, 11, 12, 13, 14, 15, 16, 19, 20, 23, 24, 25, 28, 31, 32, 35, 36, 37, 38, 39, 42, 43, 46, 47, 48, 49, 52]),
  ([.sipush 0, .ireturn], [52, 53, 54]),
  ([.aload 0, .iload 2, .iload 3, .invokevirtual 22], [54, 55, 56, 57, 60]),
  ([.iinc 2 1, .goto 1], [60, 63, 66]),
  ([.sipush 1, .ireturn], [66, 67, 68])]
def zB_35 : List (List Instr × List Nat) := [
  ([.aload 0, .getfield 132, .iload 1, .iaload, .ifCond .ge 1, .sipush 0, .goto 2], [0, 1, 4, 5, 6, 9, 10, 13]),
  ([.aload 0, .getfield 131, .iload 1, .aaload, .aload 0, .getfield 132, .iload 1, .iaload, .iaload], [13, 14, 17, 18, 19, 20, 23, 24, 25, 26]),
  ([.istore 3, .aload 0, .getfield 131, .iload 1, .aaload, .iload 2, .iaload, .iload 3, .if_icmp .le 4, .aload 0, .getfield 133, .iload 2, .iaload, .sipush (-1), .if_icmp .eq 3, .aload 0, .iload 1, .aload 0, .getfield 133, .iload 2, .iaload, .invokevirtual 33, .ifCond .eq 4], [26, 27, 28, 31, 32, 33, 34, 35, 36, 39, 40, 43, 44, 45, 46, 49, 50, 51, 52, 55, 56, 57, 60, 63]),
  ([.sipush 1, .goto 5], [63, 64, 67]),
  ([.sipush 0], [67, 68]),
  ([.ireturn], [68, 69])]
def zB_36 : List (List Instr × List Nat) := [
  ([.sipush 0, .istore 1, .sipush 0, .istore 2], [0, 1, 2, 3, 4]),
  ([.iload 2, .aload 0, .getfield 128, .if_icmp .ge 5, .sipush 0, .istore 3], [4, 5, 6, 9, 12, 13, 14]),
  ([.iload 3, .aload 0, .getfield 129, .if_icmp .ge 4, .aload 0, .iload 2, .iload 3, .invokevirtual 35, .ifCond .eq 3, .iinc 1 1], [14, 15, 16, 19, 22, 23, 24, 25, 28, 31, 34]),
  ([.iinc 3 1, .goto 2], [34, 37, 40]),
  ([.iinc 2 1, .goto 1], [40, 43, 46]),
  ([.iload 1, .ireturn], [46, 47, 48])]
def zB_37 : List (List Instr × List Nat) := [
  ([.iload 1, .istore 2, .sipush 0, .istore 3], [0, 1, 2, 3, 4]),
  ([.iload 3, .aload 0, .getfield 128, .if_icmp .ge 6, .sipush 0, .istore 4], [4, 5, 6, 9, 12, 13, 15]),
  ([.iload 4, .aload 0, .getfield 129, .if_icmp .ge 5, .aload 0, .iload 3, .iload 4, .invokevirtual 35, .ifCond .eq 4, .iload 2, .ifCond .ne 3, .sipush 10, .iload 3, .imul, .iload 4, .iadd, .ireturn], [15, 17, 18, 21, 24, 25, 26, 28, 31, 34, 35, 38, 40, 41, 42, 44, 45, 46]),
  ([.iinc 2 (-1)], [46, 49]),
  ([.iinc 4 1, .goto 2], [49, 52, 55]),
  ([.iinc 3 1, .goto 1], [55, 58, 61]),
  ([.sipush (-1), .ireturn], [61, 62, 63])]
def zB_38 : List (List Instr × List Nat) := [
  ([.iload 1, .ifCond .lt 1, .iload 1, .aload 0, .getfield 197, .if_icmp .ge 1, .sipush 1, .goto 2], [0, 1, 4, 5, 6, 9, 12, 13, 16]),
  ([.sipush 0], [16, 17]),
  ([.ireturn], [17, 18])]
def zB_39 : List (List Instr × List Nat) := [
  ([.aload 0, .getfield 197, .sipush 40, .if_icmp .lt 1, .sipush (-4), .ireturn], [0, 1, 4, 6, 9, 11, 12]),
  ([.aload 0, .getfield 192, .aload 0, .getfield 197, .iload 1, .iastore, .aload 0, .getfield 193, .aload 0, .getfield 197, .iload 2, .iastore, .aload 0, .getfield 194, .aload 0, .getfield 197, .iload 3, .iastore, .aload 0, .getfield 195, .aload 0, .getfield 197, .iload 4, .iastore, .aload 0, .getfield 196, .aload 0, .getfield 197, .sipush (-9), .iastore, .aload 0, .dup, .getfield 197, .dup_x1, .sipush 1, .iadd, .putfield 197, .ireturn], [12, 13, 16, 17, 20, 21, 22, 23, 26, 27, 30, 31, 32, 33, 36, 37, 40, 41, 42, 43, 46, 47, 50, 52, 53, 54, 57, 58, 61, 63, 64, 65, 66, 69, 70, 71, 72, 75, 76])]
def zB_40 : List (List Instr × List Nat) := [
  ([.sipush 0, .istore 5], [0, 1, 3]),
  ([.iload 5, .aload 0, .getfield 197, .if_icmp .ge 4, .aload 0, .getfield 192, .iload 5, .iaload, .iload 1, .if_icmp .eq 2, .aload 0, .getfield 193, .iload 5, .iaload, .iload 2, .if_icmp .ne 3], [3, 5, 6, 9, 12, 13, 16, 18, 19, 20, 23, 24, 27, 29, 30, 31, 34]),
  ([.aload 0, .getfield 194, .iload 5, .iaload, .iload 4, .if_icmp .gt 3, .aload 0, .getfield 195, .iload 5, .iaload, .iload 3, .if_icmp .lt 3, .sipush 1, .ireturn], [34, 35, 38, 40, 41, 43, 46, 47, 50, 52, 53, 54, 57, 58, 59]),
  ([.iinc 5 1, .goto 1], [59, 62, 65]),
  ([.sipush 0, .ireturn], [65, 66, 67])]
def zB_41 : List (List Instr × List Nat) := [
  ([.sipush 0, .istore 4], [0, 1, 3]),
  ([.iload 4, .aload 0, .getfield 197, .if_icmp .ge 3, .aload 1, .iload 4, .iaload, .iload 2, .if_icmp .ne 2, .aload 0, .getfield 194, .iload 4, .iaload, .iload 3, .if_icmp .gt 2, .aload 0, .getfield 195, .iload 4, .iaload, .iload 3, .if_icmp .lt 2, .iload 4, .ireturn], [3, 5, 6, 9, 12, 13, 15, 16, 17, 20, 21, 24, 26, 27, 28, 31, 32, 35, 37, 38, 39, 42, 44, 45]),
  ([.iinc 4 1, .goto 1], [45, 48, 51]),
  ([.sipush (-9), .ireturn], [51, 53, 54])]
def zB_42 : List (List Instr × List Nat) := [
  ([.sipush 0, .istore 4], [0, 1, 3]),
  ([.iload 4, .aload 0, .getfield 197, .if_icmp .ge 3, .aload 0, .getfield 193, .iload 4, .iaload, .iload 1, .if_icmp .ne 2, .aload 0, .getfield 194, .iload 4, .iaload, .iload 2, .if_icmp .gt 2, .aload 0, .getfield 195, .iload 4, .iaload, .iload 3, .if_icmp .lt 2, .iload 4, .ireturn], [3, 5, 6, 9, 12, 13, 16, 18, 19, 20, 23, 24, 27, 29, 30, 31, 34, 35, 38, 40, 41, 42, 45, 47, 48]),
  ([.iinc 4 1, .goto 1], [48, 51, 54]),
  ([.sipush (-9), .ireturn], [54, 56, 57])]
def zB_43 : List (List Instr × List Nat) := [
  ([.aload 0, .getfield 259, .sipush 40, .if_icmp .lt 1, .sipush (-4), .ireturn], [0, 1, 4, 6, 9, 11, 12]),
  ([.aload 0, .getfield 256, .aload 0, .getfield 259, .iload 1, .iastore, .aload 0, .getfield 257, .aload 0, .getfield 259, .iload 2, .iastore, .aload 0, .getfield 258, .aload 0, .getfield 259, .iload 3, .iastore, .aload 0, .dup, .getfield 259, .dup_x1, .sipush 1, .iadd, .putfield 259, .ireturn], [12, 13, 16, 17, 20, 21, 22, 23, 26, 27, 30, 31, 32, 33, 36, 37, 40, 41, 42, 43, 44, 47, 48, 49, 50, 53, 54])]
def zB_44 : List (List Instr × List Nat) := [
  ([.sipush 0, .istore 3], [0, 1, 2]),
  ([.iload 3, .aload 0, .getfield 259, .if_icmp .ge 3, .aload 0, .getfield 256, .iload 3, .iaload, .iload 1, .if_icmp .ne 2, .aload 0, .getfield 257, .iload 3, .iaload, .iload 2, .if_icmp .ne 2, .sipush 1, .ireturn], [2, 3, 4, 7, 10, 11, 14, 15, 16, 17, 20, 21, 24, 25, 26, 27, 30, 31, 32]),
  ([.iinc 3 1, .goto 1], [32, 35, 38]),
  ([.sipush 0, .ireturn], [38, 39, 40])]
def zB_45 : List (List Instr × List Nat) := [
  ([.sipush (-9), .istore 3, .sipush 0, .istore 4], [0, 2, 3, 4, 6]),
  ([.iload 4, .aload 0, .getfield 259, .if_icmp .ge 4, .aload 0, .getfield 256, .iload 4, .iaload, .iload 1, .if_icmp .ne 3, .aload 0, .getfield 258, .iload 4, .iaload, .iload 2, .ishr, .sipush 1, .iand, .sipush 1, .if_icmp .ne 3, .iload 3, .sipush (-9), .if_icmp .eq 2, .aload 0, .getfield 257, .iload 4, .iaload, .iload 3, .if_icmp .ge 3], [6, 8, 9, 12, 15, 16, 19, 21, 22, 23, 26, 27, 30, 32, 33, 34, 35, 36, 37, 38, 41, 42, 44, 47, 48, 51, 53, 54, 55, 58]),
  ([.aload 0, .getfield 257, .iload 4, .iaload, .istore 3], [58, 59, 62, 64, 65, 66]),
  ([.iinc 4 1, .goto 1], [66, 69, 72]),
  ([.iload 3, .ireturn], [72, 73, 74])]
def zB_46 : List (List Instr × List Nat) := [
  ([.sipush 0, .istore 3, .sipush 0, .istore 4], [0, 1, 2, 3, 5]),
  ([.iload 4, .aload 0, .getfield 259, .if_icmp .ge 3, .aload 0, .getfield 256, .iload 4, .iaload, .iload 1, .if_icmp .ne 2, .aload 0, .getfield 257, .iload 4, .iaload, .iload 2, .if_icmp .ge 2, .iload 3, .aload 0, .getfield 257, .iload 4, .iaload, .sipush 1, .iadd, .invokestatic 998, .istore 3], [5, 7, 8, 11, 14, 15, 18, 20, 21, 22, 25, 26, 29, 31, 32, 33, 36, 37, 38, 41, 43, 44, 45, 46, 49, 50]),
  ([.iinc 4 1, .goto 1], [50, 53, 56]),
  ([.iload 3, .ireturn], [56, 57, 58])]
def zB_47 : List (List Instr × List Nat) := [
  ([.sipush 0, .istore 2, .sipush 0, .istore 3], [0, 1, 2, 3, 4]),
  ([.iload 3, .aload 0, .getfield 259, .if_icmp .ge 3, .aload 0, .getfield 256, .iload 3, .iaload, .iload 1, .if_icmp .ne 2, .aload 0, .iload 1, .aload 0, .getfield 257, .iload 3, .iaload, .invokevirtual 48, .aload 0, .getfield 258, .iload 3, .iaload, .sipush (-1), .ixor, .iand, .ifCond .eq 2, .iinc 2 1], [4, 5, 6, 9, 12, 13, 16, 17, 18, 19, 22, 23, 24, 25, 28, 29, 30, 33, 34, 37, 38, 39, 40, 41, 42, 45, 48]),
  ([.iinc 3 1, .goto 1], [48, 51, 54]),
  ([.iload 2, .ireturn], [54, 55, 56])]
def zB_48 : List (List Instr × List Nat) := [
  ([.sipush 0, .istore 3, .sipush 0, .istore 4], [0, 1, 2, 3, 5]),
  ([.iload 4, .aload 0, .getfield 259, .if_icmp .ge 3, .aload 0, .getfield 256, .iload 4, .iaload, .iload 1, .if_icmp .ne 2, .aload 0, .getfield 257, .iload 4, .iaload, .iload 2, .if_icmp .ge 2, .iload 3, .aload 0, .getfield 258, .iload 4, .iaload, .ior, .istore 3], [5, 7, 8, 11, 14, 15, 18, 20, 21, 22, 25, 26, 29, 31, 32, 33, 36, 37, 38, 41, 43, 44, 45, 46]),
  ([.iinc 4 1, .goto 1], [46, 49, 52]),
  ([.iload 3, .ireturn], [52, 53, 54])]
def zB_49 : List (List Instr × List Nat) := [
  ([.aload 0, .getfield 320, .sipush (-1), .invokestatic 253, .aload 0, .getfield 321, .sipush (-1), .invokestatic 253, .sipush 0, .istore 3], [0, 1, 4, 5, 8, 9, 12, 13, 16, 17, 18]),
  ([.iload 3, .aload 1, .getfield 197, .if_icmp .ge 3, .aload 1, .getfield 194, .iload 3, .iaload, .iload 2, .if_icmp .gt 2, .aload 1, .getfield 195, .iload 3, .iaload, .iload 2, .if_icmp .lt 2, .aload 0, .getfield 320, .aload 1, .getfield 192, .iload 3, .iaload, .aload 1, .getfield 193, .iload 3, .iaload, .iastore, .aload 0, .getfield 321, .aload 1, .getfield 193, .iload 3, .iaload, .aload 1, .getfield 192, .iload 3, .iaload, .iastore], [18, 19, 20, 23, 26, 27, 30, 31, 32, 33, 36, 37, 40, 41, 42, 43, 46, 47, 50, 51, 54, 55, 56, 57, 60, 61, 62, 63, 64, 67, 68, 71, 72, 73, 74, 77, 78, 79, 80]),
  ([.iinc 3 1, .goto 1], [80, 83, 86]),
  ([.return_], [86, 87])]
def zB_50 : List (List Instr × List Nat) := [
  ([.sipush 0, .istore 4, .aload 0, .sipush 0, .putfield 322, .aload 0, .sipush 0, .putfield 324, .sipush 0, .istore 5], [0, 1, 3, 4, 5, 8, 9, 10, 13, 14, 16]),
  ([.iload 5, .iload 2, .if_icmp .ge 6, .aload 1, .iload 5, .iaload, .istore 6, .iload 6, .sipush (-1), .if_icmp .lt 2, .iload 6, .iload 3, .if_icmp .ge 2, .iload 6, .ifCond .lt 3, .iload 4, .iload 6, .ishr, .sipush 1, .iand, .sipush 1, .if_icmp .ne 3], [16, 18, 19, 22, 23, 25, 26, 28, 30, 31, 34, 36, 37, 40, 42, 45, 47, 49, 50, 51, 52, 53, 56]),
  ([.sipush 0, .ireturn], [56, 57, 58]),
  ([.aload 0, .getfield 320, .iload 5, .iaload, .sipush (-1), .if_icmp .eq 4, .aload 0, .getfield 320, .iload 5, .iaload, .iload 6, .if_icmp .eq 4, .aload 0, .dup, .getfield 322, .sipush 1, .iload 5, .ishl, .ior, .putfield 322], [58, 59, 62, 64, 65, 66, 69, 70, 73, 75, 76, 78, 81, 82, 83, 86, 87, 89, 90, 91, 94]),
  ([.iload 6, .ifCond .lt 5, .iload 4, .sipush 1, .iload 6, .ishl, .ior, .istore 4, .aload 0, .iload 5, .iload 6, .invokevirtual 51], [94, 96, 99, 101, 102, 104, 105, 106, 108, 109, 111, 113, 116]),
  ([.iinc 5 1, .goto 1], [116, 119, 122]),
  ([.sipush 1, .ireturn], [122, 123, 124])]
def zB_51 : List (List Instr × List Nat) := [
  ([.aload 0, .getfield 320, .iload 1, .iaload, .iload 2, .if_icmp .ne 1, .return_], [0, 1, 4, 5, 6, 7, 10, 11]),
  ([.aload 0, .getfield 320, .iload 1, .iaload, .sipush (-1), .if_icmp .ne 2, .sipush 0, .goto 3], [11, 12, 15, 16, 17, 18, 21, 22, 25]),
  ([.sipush 1, .iload 1, .ishl], [25, 26, 27, 28]),
  ([.istore 3, .aload 0, .getfield 321, .iload 2, .iaload, .sipush (-1), .if_icmp .ne 4, .sipush 0, .goto 5], [28, 29, 30, 33, 34, 35, 36, 39, 40, 43]),
  ([.sipush 1, .aload 0, .getfield 321, .iload 2, .iaload, .ishl], [43, 44, 45, 48, 49, 50, 51]),
  ([.istore 4, .aload 0, .getfield 323, .aload 0, .getfield 324, .iload 3, .iload 4, .ior, .iastore, .aload 0, .dup, .getfield 324, .sipush 1, .iadd, .putfield 324, .return_], [51, 53, 54, 57, 58, 61, 62, 64, 65, 66, 67, 68, 71, 72, 73, 76, 77])]
def zB_52 : List (List Instr × List Nat) := [
  ([.aload 0, .getfield 322, .invokestatic 251, .istore 2, .iload 2, .iload 1, .invokestatic 53, .istore 3, .sipush 0, .istore 4, .iload 3, .ifCond .le 1, .iload 3, .iload 1, .imul, .iload 2, .isub, .istore 5, .iload 5, .aload 0, .iload 3, .sipush 1, .isub, .iload 1, .imul, .invokevirtual 54, .invokestatic 997, .istore 4], [0, 1, 4, 7, 8, 9, 10, 13, 14, 15, 17, 18, 21, 22, 23, 24, 25, 26, 28, 30, 31, 32, 33, 34, 35, 36, 39, 42, 44]),
  ([.iload 3, .aload 0, .getfield 324, .iload 4, .isub, .iload 1, .invokestatic 53, .iadd, .ireturn], [44, 45, 46, 49, 51, 52, 53, 56, 57, 58])]
def zB_53 : List (List Instr × List Nat) := [
  ([.iload 1, .sipush 1, .if_icmp .ge 1, .sipush 0, .goto 2], [0, 1, 2, 5, 6, 9]),
  ([.iload 0, .iload 1, .iadd, .sipush 1, .isub, .iload 1, .idiv], [9, 10, 11, 12, 13, 14, 15, 16]),
  ([.ireturn], [16, 17])]
def zB_54 : List (List Instr × List Nat) := [
  ([.sipush 0, .istore 2, .sipush 0, .istore 3], [0, 1, 2, 3, 4]),
  ([.iload 3, .sipush 1024, .if_icmp .ge 3, .iload 3, .aload 0, .getfield 322, .sipush (-1), .ixor, .iand, .ifCond .ne 2, .iload 3, .invokestatic 251, .iload 1, .if_icmp .ne 2, .iload 2, .aload 0, .iload 3, .invokevirtual 55, .invokestatic 998, .istore 2], [4, 5, 8, 11, 12, 13, 16, 17, 18, 19, 22, 23, 26, 27, 30, 31, 32, 33, 36, 39, 40]),
  ([.iinc 3 1, .goto 1], [40, 43, 46]),
  ([.iload 2, .ireturn], [46, 47, 48])]
def zB_55 : List (List Instr × List Nat) := [
  ([.sipush 0, .istore 2, .sipush 0, .istore 3], [0, 1, 2, 3, 4]),
  ([.iload 3, .aload 0, .getfield 324, .if_icmp .ge 3, .aload 0, .getfield 323, .iload 3, .iaload, .iload 1, .sipush (-1), .ixor, .iand, .ifCond .ne 2, .iinc 2 1], [4, 5, 6, 9, 12, 13, 16, 17, 18, 19, 20, 21, 22, 25, 28]),
  ([.iinc 3 1, .goto 1], [28, 31, 34]),
  ([.iload 2, .ireturn], [34, 35, 36])]
def zB_56 : List (List Instr × List Nat) := [
  ([.aload 0, .aload 1, .iload 2, .iload 3, .aload 0, .getfield 384, .aload 0, .getfield 385, .invokevirtual 57, .return_], [0, 1, 2, 3, 4, 5, 8, 9, 12, 15, 16])]
def zB_57 : List (List Instr × List Nat) := [
  ([.aload 0, .sipush 0, .putfield 387, .aload 0, .sipush 0, .putfield 388, .iload 2, .iload 5, .iload 3, .isub, .invokestatic 997, .sipush 1, .isub, .istore 6, .sipush 0, .iload 3, .ineg, .invokestatic 998, .istore 7], [0, 1, 2, 5, 6, 7, 10, 11, 13, 14, 15, 18, 19, 20, 22, 23, 24, 25, 28, 30]),
  ([.iload 7, .iload 6, .if_icmp .ge 4, .aload 1, .iload 7, .invokestatic 58, .aload 4, .iload 3, .iload 7, .iadd, .invokestatic 58, .if_icmp .ne 2, .aload 0, .dup, .getfield 387, .sipush 1, .iadd, .putfield 387, .goto 3], [30, 32, 34, 37, 38, 40, 43, 45, 46, 48, 49, 52, 55, 56, 57, 60, 61, 62, 65, 68]),
  ([.aload 0, .dup, .getfield 388, .sipush 1, .iadd, .putfield 388], [68, 69, 70, 73, 74, 75, 78]),
  ([.iinc 7 1, .goto 1], [78, 81, 84]),
  ([.return_], [84, 85])]
def zB_58 : List (List Instr × List Nat) := [
  ([.aload 0, .iload 1, .iaload, .aload 0, .iload 1, .sipush 1, .iadd, .iaload, .if_icmp .ne 1, .sipush 0, .ireturn], [0, 1, 2, 3, 4, 5, 6, 7, 8, 11, 12, 13]),
  ([.aload 0, .iload 1, .iaload, .aload 0, .iload 1, .sipush 1, .iadd, .iaload, .if_icmp .ge 2, .sipush 1, .goto 3], [13, 14, 15, 16, 17, 18, 19, 20, 21, 24, 25, 28]),
  ([.sipush (-1)], [28, 29]),
  ([.ireturn], [29, 30])]
def zB_59 : List (List Instr × List Nat) := [
  ([.sipush 0, .istore 3, .sipush 1, .iload 2, .isub, .istore 4], [0, 1, 2, 3, 4, 5, 7]),
  ([.iload 4, .aload 0, .getfield 385, .if_icmp .ge 4, .aload 0, .aload 1, .iload 2, .iload 4, .invokevirtual 56, .aload 0, .getfield 387, .aload 0, .getfield 388, .iadd, .sipush 5, .if_icmp .lt 3, .iload 3, .ifCond .eq 2, .aload 0, .getfield 387, .aload 0, .getfield 388, .isub, .aload 0, .getfield 390, .if_icmp .le 3], [7, 9, 10, 13, 16, 17, 18, 19, 21, 24, 25, 28, 29, 32, 33, 34, 37, 38, 41, 42, 45, 46, 49, 50, 51, 54, 57]),
  ([.sipush 1, .istore 3, .aload 0, .iload 4, .putfield 389, .aload 0, .aload 0, .getfield 387, .aload 0, .getfield 388, .isub, .putfield 390], [57, 58, 59, 60, 62, 65, 66, 67, 70, 71, 74, 75, 78]),
  ([.iinc 4 1, .goto 1], [78, 81, 84]),
  ([.iload 3, .ireturn], [84, 85, 86])]
def zB_60 : List (List Instr × List Nat) := [
  ([.aload 1, .getfield 643, .iload 2, .iaload, .istore 4, .aload 1, .getfield 643, .iload 3, .iaload, .istore 5, .sipush 1, .iload 4, .isub, .istore 6], [0, 1, 4, 5, 6, 8, 9, 12, 13, 14, 16, 17, 19, 20, 22]),
  ([.iload 6, .iload 5, .if_icmp .ge 3, .aload 0, .aload 1, .getfield 644, .iload 2, .aaload, .iload 4, .iload 6, .aload 1, .getfield 644, .iload 3, .aaload, .iload 5, .invokevirtual 57, .aload 0, .getfield 388, .ifCond .ne 2, .aload 0, .getfield 387, .sipush 5, .if_icmp .lt 2, .sipush 1, .ireturn], [22, 24, 26, 29, 30, 31, 34, 35, 36, 38, 40, 41, 44, 45, 46, 48, 51, 52, 55, 58, 59, 62, 63, 66, 67, 68]),
  ([.iinc 6 1, .goto 1], [68, 71, 74]),
  ([.sipush 0, .ireturn], [74, 75, 76])]
def zB_61 : List (List Instr × List Nat) := [
  ([.iload 1, .ifCond .lt 1, .iload 1, .aload 0, .getfield 452, .if_icmp .ge 1, .sipush 1, .goto 2], [0, 1, 4, 5, 6, 9, 12, 13, 16]),
  ([.sipush 0], [16, 17]),
  ([.ireturn], [17, 18])]
def zB_62 : List (List Instr × List Nat) := [
  ([.aload 0, .getfield 452, .sipush 10, .if_icmp .lt 1, .sipush (-4), .ireturn], [0, 1, 4, 6, 9, 11, 12]),
  ([.aload 0, .getfield 448, .aload 0, .getfield 452, .iload 1, .iastore, .aload 0, .dup, .getfield 452, .dup_x1, .sipush 1, .iadd, .putfield 452, .ireturn], [12, 13, 16, 17, 20, 21, 22, 23, 24, 27, 28, 29, 30, 33, 34])]
def zB_63 : List (List Instr × List Nat) := [
  ([.aload 0, .getfield 449, .iload 1, .iaload, .aload 0, .getfield 450, .iload 1, .iaload, .ior, .ireturn], [0, 1, 4, 5, 6, 7, 10, 11, 12, 13, 14])]
def zB_64 : List (List Instr × List Nat) := [
  ([.aload 0, .getfield 451, .iload 1, .aaload, .iload 2, .iaload, .ifCond .le 1, .aload 0, .iload 1, .invokevirtual 63, .iload 3, .ishr, .sipush 1, .iand, .ifCond .ne 1, .sipush 1, .goto 2], [0, 1, 4, 5, 6, 7, 8, 11, 12, 13, 16, 17, 18, 19, 20, 23, 24, 27]),
  ([.sipush 0], [27, 28]),
  ([.ireturn], [28, 29])]
def zB_65 : List (List Instr × List Nat) := [
  ([.iload 1, .ifCond .lt 1, .iload 1, .sipush 4, .if_icmp .ge 1, .sipush 1, .goto 2], [0, 1, 4, 5, 6, 9, 10, 13]),
  ([.sipush 0], [13, 14]),
  ([.ireturn], [14, 15])]
def zB_66 : List (List Instr × List Nat) := [
  ([.aload 0, .getfield 512, .iload 1, .iload 2, .iastore, .aload 0, .getfield 513, .iload 1, .iload 3, .iastore, .aload 0, .getfield 514, .iload 1, .aaload, .sipush 0, .invokestatic 253, .return_], [0, 1, 4, 5, 6, 7, 8, 11, 12, 13, 14, 15, 18, 19, 20, 21, 24, 25])]
def zB_67 : List (List Instr × List Nat) := [
  ([.iload 0, .lookupswitch 3 #[(0, 1), (1, 2)]], [0, 1, 28]),
  ([.iload 1, .i2b, .ireturn], [28, 29, 30, 31]),
  ([.iload 1, .i2s, .ireturn], [31, 32, 33, 34]),
  ([.iload 1, .ireturn], [34, 35, 36])]
def zB_68 : List (List Instr × List Nat) := [
  ([.aload 0, .getfield 512, .iload 1, .iaload, .sipush (-1), .if_icmp .ne 1, .sipush 1, .ireturn], [0, 1, 4, 5, 6, 7, 10, 11, 12]),
  ([.iload 3, .ifCond .ge 2, .sipush 4, .ireturn], [12, 13, 16, 17, 18]),
  ([.iload 2, .ifCond .lt 3, .iload 2, .aload 0, .getfield 513, .iload 1, .iaload, .if_icmp .gt 3, .iload 3, .aload 0, .getfield 513, .iload 1, .iaload, .iload 2, .isub, .if_icmp .le 4], [18, 19, 22, 23, 24, 27, 28, 29, 32, 33, 34, 37, 38, 39, 40, 41, 44]),
  ([.sipush 3, .goto 5], [44, 45, 48]),
  ([.sipush 0], [48, 49]),
  ([.ireturn], [49, 50])]
def zB_69 : List (List Instr × List Nat) := [
  ([.aload 0, .getfield 512, .iload 1, .iaload, .sipush (-1), .if_icmp .eq 1, .aload 0, .getfield 512, .iload 1, .iaload, .iload 2, .if_icmp .eq 1, .sipush 2, .ireturn], [0, 1, 4, 5, 6, 7, 10, 11, 14, 15, 16, 17, 20, 21, 22]),
  ([.aload 0, .iload 1, .iload 3, .iload 4, .invokevirtual 68, .istore 5, .iload 5, .ifCond .ne 2, .aload 0, .getfield 514, .iload 1, .aaload, .iload 3, .aload 0, .getfield 515, .sipush 0, .iload 4, .invokestatic 999], [22, 23, 24, 25, 27, 30, 32, 34, 37, 38, 41, 42, 43, 44, 45, 48, 49, 51, 54]),
  ([.iload 5, .ireturn], [54, 56, 57])]
def zB_70 : List (List Instr × List Nat) := [
  ([.sipush 0, .istore 4], [0, 1, 3]),
  ([.iload 4, .iload 1, .if_icmp .ge 4, .iload 4, .aload 0, .getfield 515, .arraylength, .if_icmp .ge 4, .aload 0, .getfield 515, .iload 4, .iaload, .iload 2, .if_icmp .lt 2, .aload 0, .getfield 515, .iload 4, .iaload, .iload 3, .if_icmp .le 3], [3, 5, 6, 9, 11, 12, 15, 16, 19, 20, 23, 25, 26, 27, 30, 31, 34, 36, 37, 38, 41]),
  ([.sipush 0, .ireturn], [41, 42, 43]),
  ([.iinc 4 1, .goto 1], [43, 46, 49]),
  ([.sipush 1, .ireturn], [49, 50, 51])]
def zB_71 : List (List Instr × List Nat) := [
  ([.sipush 0, .istore 5, .sipush 0, .istore 6, .sipush 0, .istore 7, .sipush 0, .istore 8], [0, 1, 3, 4, 6, 7, 9, 10, 12]),
  ([.iload 8, .iload 1, .if_icmp .ge 8, .iload 8, .aload 0, .getfield 515, .arraylength, .if_icmp .ge 8, .aload 0, .getfield 515, .iload 8, .iaload, .istore 9, .iload 9, .iload 2, .if_icmp .lt 2, .iload 9, .iload 3, .if_icmp .gt 2, .sipush 0, .istore 6, .sipush 0, .istore 7, .goto 7], [12, 14, 15, 18, 20, 21, 24, 25, 28, 29, 32, 34, 35, 37, 39, 40, 43, 45, 46, 49, 50, 52, 53, 55, 58]),
  ([.iinc 6 1, .iload 7, .ifCond .ne 3, .iload 9, .sipush (-1), .if_icmp .eq 4], [58, 61, 63, 66, 68, 69, 72]),
  ([.sipush 1, .goto 5], [72, 73, 76]),
  ([.sipush 0], [76, 77]),
  ([.istore 7, .iload 7, .ifCond .ne 6, .iload 4, .ifCond .ne 7], [77, 79, 81, 84, 86, 89]),
  ([.iload 5, .iload 6, .invokestatic 998, .istore 5], [89, 91, 93, 96, 98]),
  ([.iinc 8 1, .goto 1], [98, 101, 104]),
  ([.iload 5, .ireturn], [104, 106, 107])]
def zB_72 : List (List Instr × List Nat) := [
  ([.iload 1, .ifCond .lt 1, .iload 1, .aload 0, .getfield 579, .if_icmp .ge 1, .sipush 1, .goto 2], [0, 1, 4, 5, 6, 9, 12, 13, 16]),
  ([.sipush 0], [16, 17]),
  ([.ireturn], [17, 18])]
def zB_73 : List (List Instr × List Nat) := [
  ([.aload 0, .getfield 579, .sipush 40, .if_icmp .lt 1, .sipush (-4), .ireturn], [0, 1, 4, 6, 9, 11, 12]),
  ([.aload 0, .getfield 576, .aload 0, .getfield 579, .iload 1, .iastore, .aload 0, .getfield 577, .aload 0, .getfield 579, .iload 2, .iastore, .aload 0, .getfield 578, .aload 0, .getfield 579, .iload 3, .iastore, .aload 0, .dup, .getfield 579, .dup_x1, .sipush 1, .iadd, .putfield 579, .ireturn], [12, 13, 16, 17, 20, 21, 22, 23, 26, 27, 30, 31, 32, 33, 36, 37, 40, 41, 42, 43, 44, 47, 48, 49, 50, 53, 54])]
def zB_74 : List (List Instr × List Nat) := [
  ([.sipush 0, .istore 4, .sipush 0, .istore 5], [0, 1, 3, 4, 6]),
  ([.iload 5, .aload 0, .getfield 579, .if_icmp .ge 3, .aload 0, .getfield 576, .iload 5, .iaload, .iload 1, .if_icmp .ne 2, .aload 0, .getfield 577, .iload 5, .iaload, .iload 2, .if_icmp .lt 2, .aload 0, .getfield 577, .iload 5, .iaload, .iload 3, .if_icmp .gt 2, .iinc 4 1], [6, 8, 9, 12, 15, 16, 19, 21, 22, 23, 26, 27, 30, 32, 33, 34, 37, 38, 41, 43, 44, 45, 48, 51]),
  ([.iinc 5 1, .goto 1], [51, 54, 57]),
  ([.iload 4, .ireturn], [57, 59, 60])]
def zB_75 : List (List Instr × List Nat) := [
  ([.aload 0, .sipush 0, .putfield 582, .aload 0, .sipush 0, .putfield 583, .aload 0, .getfield 584, .sipush 0, .invokestatic 253, .aload 0, .getfield 579, .sipush 1, .isub, .istore 3], [0, 1, 2, 5, 6, 7, 10, 11, 14, 15, 18, 19, 22, 23, 24, 25]),
  ([.iload 3, .ifCond .lt 4, .aload 0, .getfield 577, .iload 3, .iaload, .iload 1, .if_icmp .ne 3, .aload 2, .getfield 642, .aload 0, .getfield 576, .iload 3, .iaload, .iaload, .istore 4, .aload 0, .getfield 578, .iload 3, .iaload, .sipush (-1), .if_icmp .ne 2, .aload 0, .iload 4, .invokevirtual 76, .goto 3], [25, 26, 29, 30, 33, 34, 35, 36, 39, 40, 43, 44, 47, 48, 49, 50, 52, 53, 56, 57, 58, 59, 62, 63, 65, 68, 71]),
  ([.aload 0, .getfield 584, .aload 0, .getfield 578, .iload 3, .iaload, .dup2, .iaload, .iload 4, .iadd, .iastore], [71, 72, 75, 76, 79, 80, 81, 82, 83, 85, 86, 87]),
  ([.iinc 3 (-1), .goto 1], [87, 90, 93]),
  ([.aload 0, .invokevirtual 77, .return_], [93, 94, 97, 98])]
def zB_76 : List (List Instr × List Nat) := [
  ([.sipush 1, .aload 0, .getfield 583, .ishl, .istore 2, .sipush 2, .iload 2, .imul, .aload 0, .getfield 581, .arraylength, .if_icmp .le 1, .return_], [0, 1, 2, 5, 6, 7, 8, 9, 10, 11, 14, 15, 18, 19]),
  ([.sipush 0, .istore 3], [19, 20, 21]),
  ([.iload 3, .iload 2, .if_icmp .ge 3, .aload 0, .getfield 581, .iload 2, .iload 3, .iadd, .aload 0, .getfield 581, .iload 3, .iaload, .iload 1, .iadd, .iastore, .iinc 3 1, .goto 2], [21, 22, 23, 26, 27, 30, 31, 32, 33, 34, 37, 38, 39, 40, 41, 42, 45, 48]),
  ([.aload 0, .dup, .getfield 582, .iload 1, .iadd, .putfield 582, .aload 0, .dup, .getfield 583, .sipush 1, .iadd, .putfield 583, .return_], [48, 49, 50, 53, 54, 55, 58, 59, 60, 63, 64, 65, 68, 69])]
def zB_77 : List (List Instr × List Nat) := [
  ([.aload 0, .sipush 0, .putfield 586, .aload 0, .aload 0, .sipush 0, .invokevirtual 78, .putfield 585, .sipush 1, .istore 1], [0, 1, 2, 5, 6, 7, 8, 11, 14, 15, 16]),
  ([.iload 1, .sipush 1, .aload 0, .getfield 583, .ishl, .if_icmp .ge 3, .aload 0, .iload 1, .invokevirtual 78, .istore 2, .iload 2, .aload 0, .getfield 585, .if_icmp .ge 2, .aload 0, .iload 2, .putfield 585, .aload 0, .iload 1, .putfield 586], [16, 17, 18, 19, 22, 23, 26, 27, 28, 31, 32, 33, 34, 37, 40, 41, 42, 45, 46, 47, 50]),
  ([.iinc 1 1, .goto 1], [50, 53, 56]),
  ([.return_], [56, 57])]
def zB_78 : List (List Instr × List Nat) := [
  ([.aload 0, .getfield 584, .sipush 0, .iaload, .aload 0, .getfield 582, .iadd, .aload 0, .getfield 581, .iload 1, .iaload, .isub, .aload 0, .getfield 584, .sipush 1, .iaload, .aload 0, .getfield 581, .iload 1, .iaload, .iadd, .invokestatic 998, .ireturn], [0, 1, 4, 5, 6, 7, 10, 11, 12, 15, 16, 17, 18, 19, 22, 23, 24, 25, 28, 29, 30, 31, 34, 35])]
def zB_79 : List (List Instr × List Nat) := [
  ([.aload 0, .getfield 578, .iload 1, .iaload, .sipush (-1), .if_icmp .eq 1, .aload 0, .getfield 578, .iload 1, .iaload, .ireturn], [0, 1, 4, 5, 6, 7, 10, 11, 14, 15, 16, 17]),
  ([.sipush 0, .istore 2, .iload 1, .sipush 1, .iadd, .istore 3], [17, 18, 19, 20, 21, 22, 23]),
  ([.iload 3, .aload 0, .getfield 579, .if_icmp .ge 4, .aload 0, .getfield 577, .iload 3, .iaload, .aload 0, .getfield 577, .iload 1, .iaload, .if_icmp .ne 3, .aload 0, .getfield 578, .iload 3, .iaload, .sipush (-1), .if_icmp .ne 3, .iinc 2 1], [23, 24, 25, 28, 31, 32, 35, 36, 37, 38, 41, 42, 43, 46, 47, 50, 51, 52, 53, 56, 59]),
  ([.iinc 3 1, .goto 2], [59, 62, 65]),
  ([.aload 0, .getfield 586, .iload 2, .ishr, .sipush 1, .iand, .ireturn], [65, 66, 69, 70, 71, 72, 73, 74])]
def zB_80 : List (List Instr × List Nat) := [
  ([.sipush 0, .istore 2, .sipush 0, .istore 3], [0, 1, 2, 3, 4]),
  ([.iload 3, .aload 0, .getfield 579, .if_icmp .ge 3, .aload 0, .iload 3, .invokevirtual 81, .ifCond .eq 2, .aload 0, .aload 0, .getfield 577, .iload 3, .iaload, .aload 1, .invokevirtual 75, .aload 0, .getfield 585, .aload 0, .getfield 580, .if_icmp .le 2, .iinc 2 1], [4, 5, 6, 9, 12, 13, 14, 17, 20, 21, 22, 25, 26, 27, 28, 31, 32, 35, 36, 39, 42, 45]),
  ([.iinc 3 1, .goto 1], [45, 48, 51]),
  ([.iload 2, .ireturn], [51, 52, 53])]
def zB_81 : List (List Instr × List Nat) := [
  ([.sipush 0, .istore 2], [0, 1, 2]),
  ([.iload 2, .iload 1, .if_icmp .ge 3, .aload 0, .getfield 577, .iload 2, .iaload, .aload 0, .getfield 577, .iload 1, .iaload, .if_icmp .ne 2, .sipush 0, .ireturn], [2, 3, 4, 7, 8, 11, 12, 13, 14, 17, 18, 19, 22, 23, 24]),
  ([.iinc 2 1, .goto 1], [24, 27, 30]),
  ([.sipush 1, .ireturn], [30, 31, 32])]
def zB_82 : List (List Instr × List Nat) := [
  ([.iload 1, .ifCond .lt 1, .iload 1, .aload 0, .getfield 645, .if_icmp .ge 1, .sipush 1, .goto 2], [0, 1, 4, 5, 6, 9, 12, 13, 16]),
  ([.sipush 0], [16, 17]),
  ([.ireturn], [17, 18])]
def zB_83 : List (List Instr × List Nat) := [
  ([.aload 0, .getfield 645, .sipush 10, .if_icmp .lt 1, .sipush (-4), .ireturn], [0, 1, 4, 6, 9, 11, 12]),
  ([.aload 0, .getfield 640, .aload 0, .getfield 645, .iload 1, .iastore, .aload 0, .getfield 641, .aload 0, .getfield 645, .iload 2, .iastore, .aload 0, .getfield 642, .aload 0, .getfield 645, .iload 3, .iastore, .aload 0, .dup, .getfield 645, .dup_x1, .sipush 1, .iadd, .putfield 645, .ireturn], [12, 13, 16, 17, 20, 21, 22, 23, 26, 27, 30, 31, 32, 33, 36, 37, 40, 41, 42, 43, 44, 47, 48, 49, 50, 53, 54])]
def zB_84 : List (List Instr × List Nat) := [
  ([.iload 1, .sipush 0, .sipush 2, .invokestatic 133, .ifCond .eq 1, .iload 2, .sipush 0, .sipush 9, .invokestatic 133, .ifCond .eq 1, .iload 3, .sipush 1, .sipush 1000000, .invokestatic 133, .ifCond .ne 2], [0, 1, 2, 3, 6, 9, 10, 11, 13, 16, 19, 20, 21, 23, 26, 29]),
  ([.sipush (-2), .ireturn], [29, 31, 32]),
  ([.aload 0, .getfield 704, .iload 1, .iload 2, .iload 3, .invokevirtual 83, .ireturn], [32, 33, 36, 37, 38, 39, 42, 43])]
def zB_85 : List (List Instr × List Nat) := [
  ([.iload 1, .sipush 0, .sipush 99, .invokestatic 133, .ifCond .ne 1, .sipush (-2), .ireturn], [0, 1, 2, 4, 7, 10, 12, 13]),
  ([.aload 0, .getfield 705, .iload 1, .invokevirtual 62, .ireturn], [13, 14, 17, 18, 21, 22])]
def zB_86 : List (List Instr × List Nat) := [
  ([.aload 0, .getfield 705, .iload 1, .invokevirtual 61, .ifCond .eq 1, .aload 0, .getfield 704, .iload 2, .invokevirtual 82, .ifCond .ne 2], [0, 1, 4, 5, 8, 11, 12, 15, 16, 19, 22]),
  ([.sipush (-1), .ireturn], [22, 23, 24]),
  ([.iload 3, .sipush 0, .sipush 99, .invokestatic 133, .ifCond .ne 3, .sipush (-2), .ireturn], [24, 25, 26, 28, 31, 34, 36, 37]),
  ([.aload 0, .getfield 705, .getfield 451, .iload 1, .aaload, .iload 2, .iaload, .istore 4, .aload 0, .getfield 705, .getfield 451, .iload 1, .aaload, .iload 2, .iload 3, .iastore, .iload 4, .ireturn], [37, 38, 41, 44, 45, 46, 47, 48, 50, 51, 54, 57, 58, 59, 60, 61, 62, 64, 65])]
def zB_87 : List (List Instr × List Nat) := [
  ([.aload 0, .getfield 705, .iload 1, .invokevirtual 61, .ifCond .ne 1, .sipush (-1), .ireturn], [0, 1, 4, 5, 8, 11, 12, 13]),
  ([.iload 2, .sipush 0, .sipush 9, .invokestatic 133, .ifCond .ne 2, .sipush (-2), .ireturn], [13, 14, 15, 17, 20, 23, 25, 26]),
  ([.aload 0, .getfield 705, .getfield 449, .iload 1, .iaload, .istore 4, .aload 0, .getfield 705, .getfield 449, .iload 1, .iload 3, .ifCond .eq 3, .iload 4, .sipush 1, .iload 2, .ishl, .ior, .goto 4], [26, 27, 30, 33, 34, 35, 37, 38, 41, 44, 45, 46, 49, 51, 52, 53, 54, 55, 58]),
  ([.iload 4, .sipush 1, .iload 2, .ishl, .sipush (-1), .ixor, .iand], [58, 60, 61, 62, 63, 64, 65, 66]),
  ([.iastore, .aload 0, .getfield 705, .getfield 449, .iload 1, .iaload, .iload 4, .if_icmp .ne 5, .sipush 0, .goto 6], [66, 67, 68, 71, 74, 75, 76, 78, 81, 82, 85]),
  ([.sipush 1], [85, 86]),
  ([.ireturn], [86, 87])]
def zB_88 : List (List Instr × List Nat) := [
  ([.aload 0, .getfield 705, .iload 1, .invokevirtual 61, .ifCond .eq 1, .aload 0, .getfield 704, .iload 2, .invokevirtual 82, .ifCond .ne 2], [0, 1, 4, 5, 8, 11, 12, 15, 16, 19, 22]),
  ([.sipush (-1), .ireturn], [22, 23, 24]),
  ([.aload 0, .iload 1, .iload 2, .invokevirtual 139, .ifCond .eq 3, .sipush 1, .goto 4], [24, 25, 26, 27, 30, 33, 34, 37]),
  ([.sipush 0], [37, 38]),
  ([.ireturn], [38, 39])]
def zB_89 : List (List Instr × List Nat) := [
  ([.aload 0, .getfield 704, .iload 1, .invokevirtual 82, .ifCond .ne 1, .sipush (-1), .ireturn], [0, 1, 4, 5, 8, 11, 12, 13]),
  ([.iload 2, .lookupswitch 10 #[(0, 2), (1, 3), (2, 4), (3, 5), (4, 6), (5, 7), (6, 8), (7, 9)]], [13, 14, 60]),
  ([.aload 0, .getfield 704, .getfield 640, .iload 1, .iaload, .ireturn], [60, 61, 64, 67, 68, 69, 70]),
  ([.aload 0, .getfield 704, .getfield 641, .iload 1, .iaload, .ireturn], [70, 71, 74, 77, 78, 79, 80]),
  ([.aload 0, .getfield 704, .getfield 642, .iload 1, .iaload, .ireturn], [80, 81, 84, 87, 88, 89, 90]),
  ([.aload 0, .getfield 704, .getfield 643, .iload 1, .iaload, .ireturn], [90, 91, 94, 97, 98, 99, 100]),
  ([.aload 0, .getfield 706, .getfield 193, .aload 0, .getfield 706, .getfield 197, .iload 1, .invokestatic 135, .ireturn], [100, 101, 104, 107, 108, 111, 114, 115, 118, 119]),
  ([.aload 0, .getfield 707, .getfield 256, .aload 0, .getfield 707, .getfield 259, .iload 1, .invokestatic 135, .ireturn], [119, 120, 123, 126, 127, 130, 133, 134, 137, 138]),
  ([.aload 0, .getfield 708, .getfield 64, .aload 0, .getfield 708, .getfield 68, .iload 1, .invokestatic 135, .ireturn], [138, 139, 142, 145, 146, 149, 152, 153, 156, 157]),
  ([.aload 0, .getfield 709, .getfield 576, .aload 0, .getfield 709, .getfield 579, .iload 1, .invokestatic 135, .ireturn], [157, 158, 161, 164, 165, 168, 171, 172, 175, 176]),
  ([.sipush (-2), .ireturn], [176, 178, 179])]
def zB_90 : List (List Instr × List Nat) := [
  ([.aload 0, .getfield 705, .iload 1, .invokevirtual 61, .ifCond .ne 1, .sipush (-1), .ireturn], [0, 1, 4, 5, 8, 11, 12, 13]),
  ([.iload 2, .lookupswitch 6 #[(0, 2), (1, 3), (2, 4), (3, 5)]], [13, 14, 44]),
  ([.aload 0, .getfield 705, .getfield 448, .iload 1, .iaload, .ireturn], [44, 45, 48, 51, 52, 53, 54]),
  ([.aload 0, .getfield 705, .iload 1, .invokevirtual 63, .ireturn], [54, 55, 58, 59, 62, 63]),
  ([.aload 0, .iload 1, .invokevirtual 140, .ireturn], [63, 64, 65, 68, 69]),
  ([.aload 0, .getfield 706, .getfield 192, .aload 0, .getfield 706, .getfield 197, .iload 1, .invokestatic 135, .ireturn], [69, 70, 73, 76, 77, 80, 83, 84, 87, 88]),
  ([.sipush (-2), .ireturn], [88, 90, 91])]
def zB_91 : List (List Instr × List Nat) := [
  ([.aload 0, .getfield 713, .aload 0, .getfield 705, .aload 0, .getfield 704, .invokevirtual 21, .aload 0, .getfield 713, .invokevirtual 24, .aload 0, .getfield 713, .invokevirtual 23, .ireturn], [0, 1, 4, 5, 8, 9, 12, 15, 16, 19, 22, 23, 26, 29, 30])]
def zB_92 : List (List Instr × List Nat) := [
  ([.aload 0, .getfield 705, .iload 1, .invokevirtual 61, .ifCond .ne 1, .sipush (-1), .ireturn], [0, 1, 4, 5, 8, 11, 12, 13]),
  ([.iload 2, .sipush 0, .sipush 1, .invokestatic 133, .ifCond .ne 2, .sipush (-2), .ireturn], [13, 14, 15, 16, 19, 22, 24, 25]),
  ([.aload 0, .getfield 713, .aload 0, .getfield 705, .aload 0, .getfield 704, .invokevirtual 21, .iload 2, .ifCond .ne 3, .aload 0, .getfield 713, .invokevirtual 24, .goto 4], [25, 26, 29, 30, 33, 34, 37, 40, 41, 44, 45, 48, 51, 54]),
  ([.aload 0, .getfield 713, .invokevirtual 30], [54, 55, 58, 61]),
  ([.aload 0, .getfield 713, .getfield 132, .iload 1, .iaload, .istore 3, .iload 3, .ifCond .ge 5, .sipush (-9), .goto 6], [61, 62, 65, 68, 69, 70, 71, 72, 75, 77, 80]),
  ([.iload 3], [80, 81]),
  ([.ireturn], [81, 82])]
def zB_93 : List (List Instr × List Nat) := [
  ([.aload 0, .iload 1, .iload 2, .iload 3, .invokevirtual 138, .istore 4, .iload 4, .ifCond .eq 1, .iload 4, .goto 2], [0, 1, 2, 3, 4, 7, 9, 11, 14, 16, 19]),
  ([.aload 0, .getfield 713, .invokevirtual 36], [19, 20, 23, 26]),
  ([.ireturn], [26, 27])]
def zB_94 : List (List Instr × List Nat) := [
  ([.aload 0, .sipush 0, .putfield 716, .iload 4, .ifCond .ge 1, .sipush (-1), .ireturn], [0, 1, 2, 5, 7, 10, 11, 12]),
  ([.aload 0, .iload 1, .iload 2, .iload 3, .invokevirtual 138, .istore 5, .iload 5, .ifCond .eq 2, .iload 5, .goto 3], [12, 13, 14, 15, 16, 19, 21, 23, 26, 28, 31]),
  ([.aload 0, .getfield 713, .iload 4, .invokevirtual 37], [31, 32, 35, 37, 40]),
  ([.ireturn], [40, 41])]
def zB_95 : List (List Instr × List Nat) := [
  ([.aload 0, .getfield 705, .iload 1, .invokevirtual 61, .ifCond .eq 1, .aload 0, .getfield 704, .iload 2, .invokevirtual 82, .ifCond .ne 2], [0, 1, 4, 5, 8, 11, 12, 15, 16, 19, 22]),
  ([.sipush (-1), .ireturn], [22, 23, 24]),
  ([.iload 3, .sipush 0, .sipush 100000, .invokestatic 133, .ifCond .eq 3, .iload 4, .iload 3, .sipush 100000, .invokestatic 133, .ifCond .ne 4], [24, 25, 26, 28, 31, 34, 36, 37, 39, 42, 45]),
  ([.sipush (-2), .ireturn], [45, 47, 48]),
  ([.aload 0, .iload 1, .iload 2, .invokevirtual 139, .ifCond .eq 5, .aload 0, .getfield 706, .iload 1, .iload 2, .iload 3, .iload 4, .invokevirtual 40, .ifCond .eq 6], [48, 49, 50, 51, 54, 57, 58, 61, 62, 63, 64, 66, 69, 72]),
  ([.sipush (-3), .ireturn], [72, 74, 75]),
  ([.aload 0, .getfield 706, .iload 1, .iload 2, .iload 3, .iload 4, .invokevirtual 39, .istore 5, .iload 5, .ifCond .lt 7, .aload 0, .getfield 705, .getfield 450, .iload 1, .dup2, .iaload, .sipush 1, .aload 0, .getfield 704, .getfield 641, .iload 2, .iaload, .ishl, .ior, .iastore], [75, 76, 79, 80, 81, 82, 84, 87, 89, 91, 94, 95, 98, 101, 102, 103, 104, 105, 106, 109, 112, 113, 114, 115, 116, 117]),
  ([.iload 5, .ireturn], [117, 119, 120])]
def zB_96 : List (List Instr × List Nat) := [
  ([.aload 0, .getfield 706, .iload 1, .invokevirtual 38, .ifCond .ne 1, .sipush (-1), .ireturn], [0, 1, 4, 5, 8, 11, 12, 13]),
  ([.iload 2, .aload 0, .getfield 706, .getfield 194, .iload 1, .iaload, .aload 0, .getfield 706, .getfield 195, .iload 1, .iaload, .invokestatic 133, .ifCond .ne 2, .sipush (-2), .ireturn], [13, 14, 15, 18, 21, 22, 23, 24, 27, 30, 31, 32, 35, 38, 40, 41]),
  ([.aload 0, .getfield 706, .getfield 195, .iload 1, .iaload, .istore 3, .aload 0, .getfield 706, .getfield 195, .iload 1, .iload 2, .iastore, .iload 3, .ireturn], [41, 42, 45, 48, 49, 50, 51, 52, 55, 58, 59, 60, 61, 62, 63])]
def zB_97 : List (List Instr × List Nat) := [
  ([.aload 0, .getfield 706, .iload 1, .invokevirtual 38, .ifCond .ne 1, .sipush (-1), .ireturn], [0, 1, 4, 5, 8, 11, 12, 13]),
  ([.iload 2, .sipush 0, .sipush 100000, .invokestatic 133, .ifCond .ne 2, .sipush (-2), .ireturn], [13, 14, 15, 17, 20, 23, 25, 26]),
  ([.aload 0, .getfield 706, .getfield 196, .iload 1, .iload 2, .iastore, .sipush 1, .ireturn], [26, 27, 30, 33, 34, 35, 36, 37, 38])]
def zB_98 : List (List Instr × List Nat) := [
  ([.aload 0, .getfield 706, .iload 1, .invokevirtual 38, .ifCond .ne 1, .sipush (-1), .ireturn], [0, 1, 4, 5, 8, 11, 12, 13]),
  ([.iload 2, .lookupswitch 8 #[(0, 2), (1, 3), (2, 4), (3, 5), (4, 6), (5, 7)]], [13, 14, 52]),
  ([.aload 0, .getfield 706, .getfield 192, .iload 1, .iaload, .ireturn], [52, 53, 56, 59, 60, 61, 62]),
  ([.aload 0, .getfield 706, .getfield 193, .iload 1, .iaload, .ireturn], [62, 63, 66, 69, 70, 71, 72]),
  ([.aload 0, .getfield 706, .getfield 194, .iload 1, .iaload, .ireturn], [72, 73, 76, 79, 80, 81, 82]),
  ([.aload 0, .getfield 706, .getfield 195, .iload 1, .iaload, .ireturn], [82, 83, 86, 89, 90, 91, 92]),
  ([.aload 0, .getfield 706, .getfield 196, .iload 1, .iaload, .ireturn], [92, 93, 96, 99, 100, 101, 102]),
  ([.aload 0, .iload 1, .invokevirtual 141, .ireturn], [102, 103, 104, 107, 108]),
  ([.sipush (-2), .ireturn], [108, 110, 111])]
def zB_99 : List (List Instr × List Nat) := [
  ([.iload 1, .sipush 0, .sipush 1, .invokestatic 133, .ifCond .ne 1, .sipush (-2), .ireturn], [0, 1, 2, 3, 6, 9, 11, 12]),
  ([.iload 1, .ifCond .ne 2, .aload 0, .getfield 704, .iload 2, .invokevirtual 82, .ifCond .ne 4, .goto 3], [12, 13, 16, 17, 20, 21, 24, 27, 30]),
  ([.aload 0, .getfield 705, .iload 2, .invokevirtual 61, .ifCond .ne 4], [30, 31, 34, 35, 38, 41]),
  ([.sipush (-1), .ireturn], [41, 42, 43]),
  ([.iload 3, .sipush 0, .sipush 100000, .invokestatic 133, .ifCond .ne 5, .sipush (-2), .ireturn], [43, 44, 45, 47, 50, 53, 55, 56]),
  ([.aload 0, .getfield 706, .iload 1, .ifCond .ne 6, .aload 0, .getfield 706, .getfield 193, .goto 7], [56, 57, 60, 61, 64, 65, 68, 71, 74]),
  ([.aload 0, .getfield 706, .getfield 192], [74, 75, 78, 81]),
  ([.iload 2, .iload 3, .invokevirtual 41, .ireturn], [81, 82, 83, 86, 87])]
def zB_100 : List (List Instr × List Nat) := [
  ([.aload 0, .getfield 704, .iload 1, .invokevirtual 82, .ifCond .ne 1, .sipush (-1), .ireturn], [0, 1, 4, 5, 8, 11, 12, 13]),
  ([.iload 2, .sipush 0, .sipush 100000, .invokestatic 133, .ifCond .eq 2, .iload 3, .sipush 0, .sipush 65535, .invokestatic 133, .ifCond .ne 3], [13, 14, 15, 17, 20, 23, 24, 25, 27, 30, 33]),
  ([.sipush (-2), .ireturn], [33, 35, 36]),
  ([.aload 0, .getfield 707, .iload 1, .iload 2, .invokevirtual 44, .ifCond .eq 4, .sipush (-3), .ireturn], [36, 37, 40, 41, 42, 45, 48, 50, 51]),
  ([.aload 0, .getfield 707, .iload 1, .iload 2, .iload 3, .invokevirtual 43, .ireturn], [51, 52, 55, 56, 57, 58, 61, 62])]
def zB_101 : List (List Instr × List Nat) := [
  ([.aload 0, .getfield 704, .iload 1, .invokevirtual 82, .ifCond .eq 1, .iload 2, .sipush 0, .sipush 15, .invokestatic 133, .ifCond .ne 2], [0, 1, 4, 5, 8, 11, 12, 13, 15, 18, 21]),
  ([.sipush (-1), .ireturn], [21, 22, 23]),
  ([.iload 3, .sipush 0, .sipush 1, .invokestatic 133, .ifCond .ne 3, .sipush (-2), .ireturn], [23, 24, 25, 26, 29, 32, 34, 35]),
  ([.aload 0, .getfield 707, .iload 1, .iload 2, .invokevirtual 45, .istore 4, .iload 4, .sipush (-9), .if_icmp .ne 4, .sipush (-9), .ireturn], [35, 36, 39, 40, 41, 44, 46, 48, 50, 53, 55, 56]),
  ([.iload 3, .ifCond .ne 5, .aload 0, .getfield 707, .iload 1, .iload 4, .invokevirtual 46, .goto 6], [56, 57, 60, 61, 64, 65, 67, 70, 73]),
  ([.iload 4], [73, 75]),
  ([.ireturn], [75, 76])]
def zB_102 : List (List Instr × List Nat) := [
  ([.aload 0, .getfield 704, .iload 1, .invokevirtual 82, .ifCond .eq 1, .iload 2, .sipush 0, .sipush 15, .invokestatic 133, .ifCond .ne 2], [0, 1, 4, 5, 8, 11, 12, 13, 15, 18, 21]),
  ([.sipush (-1), .ireturn], [21, 22, 23]),
  ([.aload 0, .getfield 707, .iload 1, .iload 2, .invokevirtual 45, .istore 3, .iload 3, .sipush (-9), .if_icmp .ne 3, .sipush (-9), .ireturn], [23, 24, 27, 28, 29, 32, 33, 34, 36, 39, 41, 42]),
  ([.aload 0, .getfield 706, .iload 1, .aload 0, .getfield 707, .iload 1, .iload 3, .invokevirtual 46, .iload 3, .invokevirtual 42, .ireturn], [42, 43, 46, 47, 48, 51, 52, 53, 56, 57, 60, 61])]
def zB_103 : List (List Instr × List Nat) := [
  ([.aload 0, .getfield 704, .iload 1, .invokevirtual 82, .ifCond .eq 1, .aload 0, .getfield 707, .iload 1, .invokevirtual 47, .goto 2], [0, 1, 4, 5, 8, 11, 12, 15, 16, 19, 22]),
  ([.sipush (-1)], [22, 23]),
  ([.ireturn], [23, 24])]
def zB_104 : List (List Instr × List Nat) := [
  ([.aload 0, .sipush 0, .putfield 716, .aload 0, .getfield 710, .iload 3, .invokevirtual 65, .ifCond .ne 1, .sipush (-1), .ireturn], [0, 1, 2, 5, 6, 9, 10, 13, 16, 17, 18]),
  ([.iload 4, .invokestatic 134, .ifCond .eq 2, .iload 1, .sipush 0, .sipush 100000, .invokestatic 133, .ifCond .eq 2, .iload 2, .sipush 1, .sipush 9, .invokestatic 133, .ifCond .ne 3], [18, 20, 23, 26, 27, 28, 30, 33, 36, 37, 38, 40, 43, 46]),
  ([.sipush (-2), .ireturn], [46, 48, 49]),
  ([.aload 0, .aload 0, .getfield 710, .iload 3, .iload 4, .iload 5, .aload 0, .getfield 705, .getfield 452, .invokevirtual 69, .invokevirtual 136, .istore 6, .iload 6, .ifCond .eq 4, .iload 6, .ireturn], [49, 50, 51, 54, 55, 57, 59, 60, 63, 66, 69, 72, 74, 76, 79, 81, 82]),
  ([.aload 0, .getfield 714, .aload 0, .getfield 706, .iload 1, .invokevirtual 49, .aload 0, .getfield 714, .aload 0, .getfield 710, .getfield 515, .aload 0, .getfield 705, .getfield 452, .aload 0, .getfield 704, .getfield 645, .invokevirtual 50, .ifCond .ne 5, .sipush (-2), .ireturn], [82, 83, 86, 87, 90, 91, 94, 95, 98, 99, 102, 105, 106, 109, 112, 113, 116, 119, 122, 125, 127, 128]),
  ([.aload 0, .getfield 714, .iload 2, .invokevirtual 52, .ireturn], [128, 129, 132, 133, 136, 137])]
def zB_105 : List (List Instr × List Nat) := [
  ([.aload 0, .getfield 704, .iload 1, .invokevirtual 82, .ifCond .ne 1, .sipush (-1), .ireturn], [0, 1, 4, 5, 8, 11, 12, 13]),
  ([.iload 2, .sipush 0, .sipush 99, .invokestatic 133, .ifCond .eq 2, .iload 3, .sipush 1500, .sipush 2100, .invokestatic 133, .ifCond .eq 2, .iload 4, .iload 3, .sipush 2100, .invokestatic 133, .ifCond .ne 3], [13, 14, 15, 17, 20, 23, 24, 27, 30, 33, 36, 38, 39, 42, 45, 48]),
  ([.sipush (-2), .ireturn], [48, 50, 51]),
  ([.aload 0, .getfield 708, .iload 1, .iload 2, .iload 3, .iload 4, .invokevirtual 7, .ireturn], [51, 52, 55, 56, 57, 58, 60, 63, 64])]
def zB_106 : List (List Instr × List Nat) := [
  ([.aload 0, .getfield 704, .iload 1, .invokevirtual 82, .ifCond .ne 1, .sipush (-1), .ireturn], [0, 1, 4, 5, 8, 11, 12, 13]),
  ([.iload 2, .lookupswitch 4 #[(0, 2), (1, 3)]], [13, 14, 40]),
  ([.aload 0, .getfield 708, .iload 1, .invokevirtual 11, .ireturn], [40, 41, 44, 45, 48, 49]),
  ([.aload 0, .getfield 708, .iload 1, .invokevirtual 14, .ireturn], [49, 50, 53, 54, 57, 58]),
  ([.sipush (-2), .ireturn], [58, 60, 61])]
def zB_107 : List (List Instr × List Nat) := [
  ([.aload 0, .getfield 704, .iload 1, .invokevirtual 82, .ifCond .eq 1, .iload 2, .ifCond .lt 1, .aload 0, .getfield 708, .iload 1, .iload 2, .invokevirtual 12, .ifCond .ne 2], [0, 1, 4, 5, 8, 11, 12, 15, 16, 19, 20, 21, 24, 27]),
  ([.sipush (-1), .ireturn], [27, 28, 29]),
  ([.iload 3, .lookupswitch 5 #[(0, 3), (1, 4)]], [29, 30, 56]),
  ([.aload 0, .getfield 708, .getfield 71, .ireturn], [56, 57, 60, 63, 64]),
  ([.aload 0, .getfield 708, .getfield 72, .ireturn], [64, 65, 68, 71, 72]),
  ([.sipush (-2), .ireturn], [72, 74, 75])]
def zB_108 : List (List Instr × List Nat) := [
  ([.aload 0, .getfield 704, .iload 1, .invokevirtual 82, .ifCond .ne 1, .sipush (-1), .ireturn], [0, 1, 4, 5, 8, 11, 12, 13]),
  ([.iload 2, .sipush 0, .sipush 99, .invokestatic 133, .ifCond .eq 2, .iload 3, .sipush 1500, .sipush 2100, .invokestatic 133, .ifCond .ne 3], [13, 14, 15, 17, 20, 23, 24, 27, 30, 33, 36]),
  ([.sipush (-2), .ireturn], [36, 38, 39]),
  ([.aload 0, .getfield 708, .iload 1, .iload 2, .iload 3, .invokevirtual 15, .ifCond .eq 4, .sipush 2, .ireturn], [39, 40, 43, 44, 45, 46, 49, 52, 53, 54]),
  ([.aload 0, .getfield 708, .iload 1, .iload 2, .iload 3, .invokevirtual 18, .ifCond .eq 5, .sipush 1, .goto 6], [54, 55, 58, 59, 60, 61, 64, 67, 68, 71]),
  ([.sipush 0], [71, 72]),
  ([.ireturn], [72, 73])]
def zB_109 : List (List Instr × List Nat) := [
  ([.aload 0, .getfield 704, .iload 1, .invokevirtual 82, .ifCond .ne 1, .sipush (-1), .ireturn], [0, 1, 4, 5, 8, 11, 12, 13]),
  ([.iload 2, .sipush 0, .sipush 100000, .invokestatic 133, .ifCond .eq 2, .iload 3, .sipush (-1), .sipush 1, .invokestatic 133, .ifCond .ne 3], [13, 14, 15, 17, 20, 23, 24, 25, 26, 29, 32]),
  ([.sipush (-2), .ireturn], [32, 34, 35]),
  ([.aload 0, .getfield 709, .iload 1, .iload 2, .iload 2, .invokevirtual 74, .ifCond .le 4, .sipush (-3), .ireturn], [35, 36, 39, 40, 41, 42, 45, 48, 50, 51]),
  ([.aload 0, .getfield 709, .iload 1, .iload 2, .iload 3, .invokevirtual 73, .ireturn], [51, 52, 55, 56, 57, 58, 61, 62])]
def zB_110 : List (List Instr × List Nat) := [
  ([.aload 0, .getfield 709, .iload 1, .invokevirtual 72, .ifCond .ne 1, .sipush (-1), .ireturn], [0, 1, 4, 5, 8, 11, 12, 13]),
  ([.iload 2, .sipush (-1), .sipush 1, .invokestatic 133, .ifCond .ne 2, .sipush (-2), .ireturn], [13, 14, 15, 16, 19, 22, 24, 25]),
  ([.aload 0, .getfield 709, .getfield 578, .iload 1, .iaload, .istore 3, .aload 0, .getfield 709, .getfield 578, .iload 1, .iload 2, .iastore, .iload 3, .sipush (-1), .if_icmp .ne 3, .sipush (-9), .goto 4], [25, 26, 29, 32, 33, 34, 35, 36, 39, 42, 43, 44, 45, 46, 47, 50, 52, 55]),
  ([.iload 3], [55, 56]),
  ([.ireturn], [56, 57])]
def zB_111 : List (List Instr × List Nat) := [
  ([.iload 1, .sipush 0, .sipush 100000, .invokestatic 133, .ifCond .ne 1, .sipush (-2), .ireturn], [0, 1, 2, 4, 7, 10, 12, 13]),
  ([.aload 0, .getfield 709, .iload 1, .aload 0, .getfield 704, .invokevirtual 75, .aload 0, .getfield 709, .getfield 585, .ireturn], [13, 14, 17, 18, 19, 22, 25, 26, 29, 32, 33])]
def zB_112 : List (List Instr × List Nat) := [
  ([.aload 0, .getfield 709, .iload 1, .invokevirtual 72, .ifCond .ne 1, .sipush (-1), .ireturn], [0, 1, 4, 5, 8, 11, 12, 13]),
  ([.aload 0, .getfield 709, .aload 0, .getfield 709, .getfield 577, .iload 1, .iaload, .aload 0, .getfield 704, .invokevirtual 75, .aload 0, .getfield 709, .iload 1, .invokevirtual 79, .ireturn], [13, 14, 17, 18, 21, 24, 25, 26, 27, 30, 33, 34, 37, 38, 41, 42])]
def zB_113 : List (List Instr × List Nat) := [
  ([.iload 1, .sipush 1, .sipush 100000000, .invokestatic 133, .ifCond .ne 1, .sipush (-2), .ireturn], [0, 1, 2, 5, 8, 11, 13, 14]),
  ([.aload 0, .getfield 709, .getfield 580, .istore 2, .aload 0, .getfield 709, .iload 1, .putfield 580, .iload 2, .ireturn], [14, 15, 18, 21, 22, 23, 26, 27, 30, 31, 32])]
def zB_114 : List (List Instr × List Nat) := [
  ([.aload 0, .getfield 709, .aload 0, .getfield 704, .invokevirtual 80, .ireturn], [0, 1, 4, 5, 8, 11, 12])]
def zB_115 : List (List Instr × List Nat) := [
  ([.aload 0, .sipush 0, .putfield 716, .aload 0, .getfield 710, .iload 1, .invokevirtual 65, .ifCond .ne 1, .sipush (-1), .ireturn], [0, 1, 2, 5, 6, 9, 10, 13, 16, 17, 18]),
  ([.iload 2, .invokestatic 134, .ifCond .eq 2, .iload 5, .sipush 0, .sipush 100, .invokestatic 133, .ifCond .eq 2, .iload 6, .iload 5, .sipush 100, .invokestatic 133, .ifCond .eq 2, .iload 7, .sipush 0, .sipush 1, .invokestatic 133, .ifCond .ne 3], [18, 19, 22, 25, 27, 28, 30, 33, 36, 38, 40, 42, 45, 48, 50, 51, 52, 55, 58]),
  ([.sipush (-2), .ireturn], [58, 60, 61]),
  ([.aload 0, .aload 0, .getfield 710, .iload 1, .iload 2, .iload 3, .iload 4, .invokevirtual 69, .invokevirtual 136, .istore 8, .iload 8, .ifCond .eq 4, .iload 8, .ireturn], [61, 62, 63, 66, 67, 68, 69, 71, 74, 77, 79, 81, 84, 86, 87]),
  ([.aload 0, .getfield 710, .iload 4, .sipush (-1), .sipush 100, .invokevirtual 70, .ifCond .ne 5, .sipush (-2), .ireturn], [87, 88, 91, 93, 94, 96, 99, 102, 104, 105]),
  ([.aload 0, .getfield 710, .iload 4, .iload 5, .iload 6, .iload 7, .sipush 1, .if_icmp .ne 6, .sipush 1, .goto 7], [105, 106, 109, 111, 113, 115, 117, 118, 121, 122, 125]),
  ([.sipush 0], [125, 126]),
  ([.invokevirtual 71, .ireturn], [126, 129, 130])]
def zB_116 : List (List Instr × List Nat) := [
  ([.aload 0, .sipush 0, .putfield 716, .aload 0, .getfield 704, .iload 1, .invokevirtual 82, .ifCond .eq 1, .aload 0, .getfield 710, .iload 2, .invokevirtual 65, .ifCond .ne 2], [0, 1, 2, 5, 6, 9, 10, 13, 16, 17, 20, 21, 24, 27]),
  ([.sipush (-1), .ireturn], [27, 28, 29]),
  ([.iload 3, .invokestatic 134, .ifCond .ne 3, .sipush (-2), .ireturn], [29, 30, 33, 36, 38, 39]),
  ([.aload 0, .aload 0, .getfield 710, .iload 2, .iload 3, .iload 4, .iload 5, .invokevirtual 69, .invokevirtual 136, .istore 6, .iload 6, .ifCond .eq 4, .iload 6, .ireturn], [39, 40, 41, 44, 45, 46, 48, 50, 53, 56, 58, 60, 63, 65, 66]),
  ([.iload 5, .sipush 20, .if_icmp .gt 5, .aload 0, .getfield 710, .iload 5, .sipush 1, .sipush 255, .invokevirtual 70, .ifCond .ne 6], [66, 68, 70, 73, 74, 77, 79, 80, 83, 86, 89]),
  ([.sipush (-2), .ireturn], [89, 91, 92]),
  ([.aload 0, .getfield 710, .getfield 515, .sipush 0, .aload 0, .getfield 704, .getfield 644, .iload 1, .aaload, .sipush 0, .iload 5, .invokestatic 999, .aload 0, .getfield 704, .getfield 643, .iload 1, .iload 5, .iastore, .iload 5, .ireturn], [92, 93, 96, 99, 100, 101, 104, 107, 108, 109, 110, 112, 115, 116, 119, 122, 123, 125, 126, 128, 129])]
def zB_117 : List (List Instr × List Nat) := [
  ([.aload 0, .sipush 0, .putfield 716, .aload 0, .getfield 710, .iload 1, .invokevirtual 65, .ifCond .ne 1, .sipush (-1), .ireturn], [0, 1, 2, 5, 6, 9, 10, 13, 16, 17, 18]),
  ([.iload 2, .invokestatic 134, .ifCond .eq 2, .iload 5, .sipush 0, .sipush 2100, .invokestatic 133, .ifCond .ne 3], [18, 19, 22, 25, 27, 28, 31, 34, 37]),
  ([.sipush (-2), .ireturn], [37, 39, 40]),
  ([.aload 0, .aload 0, .getfield 710, .iload 1, .iload 2, .iload 3, .iload 4, .invokevirtual 69, .invokevirtual 136, .istore 6, .iload 6, .ifCond .eq 4, .iload 6, .ireturn], [40, 41, 42, 45, 46, 47, 48, 50, 53, 56, 58, 60, 63, 65, 66]),
  ([.aload 0, .getfield 710, .iload 4, .sipush 1, .sipush 255, .invokevirtual 70, .ifCond .ne 5, .sipush (-2), .ireturn], [66, 67, 70, 72, 73, 76, 79, 82, 84, 85]),
  ([.aload 0, .getfield 710, .getfield 515, .sipush 0, .aload 0, .getfield 711, .getfield 384, .sipush 0, .iload 4, .invokestatic 999, .aload 0, .getfield 711, .iload 4, .putfield 385, .aload 0, .getfield 711, .iload 5, .putfield 386, .iload 4, .ireturn], [85, 86, 89, 92, 93, 94, 97, 100, 101, 103, 106, 107, 110, 112, 115, 116, 119, 121, 124, 126, 127])]
def zB_118 : List (List Instr × List Nat) := [
  ([.aload 0, .getfield 704, .iload 1, .invokevirtual 82, .ifCond .eq 1, .iload 3, .sipush 0, .sipush 1, .invokestatic 133, .ifCond .ne 2], [0, 1, 4, 5, 8, 11, 12, 13, 14, 17, 20]),
  ([.ldc2_w 0, .lreturn], [20, 23, 24]),
  ([.aload 0, .getfield 704, .getfield 643, .iload 1, .iaload, .istore 4, .iload 4, .ifCond .eq 3, .aload 0, .getfield 711, .getfield 385, .ifCond .eq 3, .iload 2, .sipush 1, .iload 4, .isub, .aload 0, .getfield 711, .getfield 385, .sipush 1, .isub, .invokestatic 133, .ifCond .ne 4], [24, 25, 28, 31, 32, 33, 35, 37, 40, 41, 44, 47, 50, 51, 52, 54, 55, 56, 59, 62, 63, 64, 67, 70]),
  ([.ldc2_w 0, .lreturn], [70, 73, 74]),
  ([.aload 0, .getfield 711, .aload 0, .getfield 704, .getfield 644, .iload 1, .aaload, .iload 4, .iload 2, .invokevirtual 56, .iload 3, .ifCond .ne 5, .aload 0, .getfield 711, .getfield 387, .aload 0, .getfield 711, .getfield 388, .isub, .i2l, .goto 6], [74, 75, 78, 79, 82, 85, 86, 87, 89, 90, 93, 94, 97, 98, 101, 104, 105, 108, 111, 112, 113, 116]),
  ([.aload 0, .getfield 711, .getfield 387, .aload 0, .getfield 711, .getfield 388, .iadd, .i2l], [116, 117, 120, 123, 124, 127, 130, 131, 132]),
  ([.lreturn], [132, 133])]
def zB_119 : List (List Instr × List Nat) := [
  ([.aload 0, .getfield 704, .iload 1, .invokevirtual 82, .ifCond .eq 1, .aload 0, .getfield 711, .aload 0, .getfield 704, .getfield 644, .iload 1, .aaload, .aload 0, .getfield 704, .getfield 643, .iload 1, .iaload, .invokevirtual 59, .ifCond .ne 2], [0, 1, 4, 5, 8, 11, 12, 15, 16, 19, 22, 23, 24, 25, 28, 31, 32, 33, 36, 39]),
  ([.ldc2_w 0, .lreturn], [39, 42, 43]),
  ([.iload 2, .lookupswitch 6 #[(0, 3), (1, 4), (2, 5)]], [43, 44, 72]),
  ([.aload 0, .getfield 711, .getfield 389, .i2l, .lreturn], [72, 73, 76, 79, 80, 81]),
  ([.aload 0, .getfield 711, .getfield 390, .i2l, .lreturn], [81, 82, 85, 88, 89, 90]),
  ([.aload 0, .getfield 711, .getfield 386, .aload 0, .getfield 711, .getfield 389, .iadd, .aload 0, .getfield 704, .getfield 643, .iload 1, .iaload, .iadd, .sipush 1, .isub, .i2l, .lreturn], [90, 91, 94, 97, 98, 101, 104, 105, 106, 109, 112, 113, 114, 115, 116, 117, 118, 119]),
  ([.ldc2_w 0, .lreturn], [119, 122, 123])]
def zB_120 : List (List Instr × List Nat) := [
  ([.aload 0, .getfield 704, .iload 1, .invokevirtual 82, .ifCond .eq 1, .aload 0, .getfield 704, .iload 2, .invokevirtual 82, .ifCond .ne 2], [0, 1, 4, 5, 8, 11, 12, 15, 16, 19, 22]),
  ([.sipush (-1), .ireturn], [22, 23, 24]),
  ([.iload 1, .iload 2, .if_icmp .ne 3, .sipush (-3), .ireturn], [24, 25, 26, 29, 31, 32]),
  ([.aload 0, .getfield 711, .aload 0, .getfield 704, .iload 1, .iload 2, .invokevirtual 60, .ifCond .eq 4, .sipush 1, .goto 5], [32, 33, 36, 37, 40, 41, 42, 45, 48, 49, 52]),
  ([.sipush 0], [52, 53]),
  ([.ireturn], [53, 54])]
def zB_121 : List (List Instr × List Nat) := [
  ([.aload 0, .iload 1, .iload 2, .iload 3, .iload 4, .invokevirtual 137, .istore 5, .iload 5, .ifCond .eq 1, .iload 5, .ireturn], [0, 1, 2, 3, 4, 6, 9, 11, 13, 16, 18, 19]),
  ([.aload 0, .getfield 712, .aload 0, .getfield 710, .getfield 515, .iload 4, .invokevirtual 0, .istore 6, .iload 6, .sipush (-1), .if_icmp .ne 2, .aload 0, .getfield 712, .getfield 1, .goto 3], [19, 20, 23, 24, 27, 30, 32, 35, 37, 39, 40, 43, 44, 47, 50, 53]),
  ([.sipush (-100), .iload 6, .isub], [53, 55, 57, 58]),
  ([.ireturn], [58, 59])]
def zB_122 : List (List Instr × List Nat) := [
  ([.iload 1, .sipush 0, .sipush 3, .invokestatic 133, .ifCond .eq 1, .aload 0, .getfield 712, .getfield 0, .iload 1, .iaload, .goto 2], [0, 1, 2, 3, 6, 9, 10, 13, 16, 17, 18, 21]),
  ([.sipush (-1)], [21, 22]),
  ([.ireturn], [22, 23])]
def zB_123 : List (List Instr × List Nat) := [
  ([.aload 0, .sipush 0, .putfield 716, .aload 0, .getfield 710, .iload 1, .invokevirtual 65, .ifCond .ne 1, .sipush (-1), .ireturn], [0, 1, 2, 5, 6, 9, 10, 13, 16, 17, 18]),
  ([.iload 2, .invokestatic 134, .ifCond .eq 2, .iload 3, .sipush 60, .if_icmp .le 3], [18, 19, 22, 25, 26, 28, 31]),
  ([.sipush (-2), .ireturn], [31, 33, 34]),
  ([.iload 3, .ifCond .ge 4, .aload 0, .sipush 4, .invokevirtual 136, .ireturn], [34, 35, 38, 39, 40, 43, 44]),
  ([.aload 0, .getfield 710, .iload 1, .iload 2, .iload 3, .invokevirtual 66, .sipush 1, .ireturn], [44, 45, 48, 49, 50, 51, 54, 55, 56])]
def zB_124 : List (List Instr × List Nat) := [
  ([.aload 0, .getfield 710, .iload 1, .invokevirtual 65, .ifCond .ne 1, .sipush (-1), .ireturn], [0, 1, 4, 5, 8, 11, 12, 13]),
  ([.aload 0, .getfield 710, .getfield 512, .iload 1, .iaload, .sipush (-1), .if_icmp .eq 2, .sipush 1, .goto 3], [13, 14, 17, 20, 21, 22, 23, 26, 27, 30]),
  ([.sipush 0], [30, 31]),
  ([.istore 2, .aload 0, .getfield 710, .iload 1, .sipush (-1), .sipush 0, .invokevirtual 66, .iload 2, .ifCond .eq 4, .sipush 1, .goto 5], [31, 32, 33, 36, 37, 38, 39, 42, 43, 46, 47, 50]),
  ([.sipush 0], [50, 51]),
  ([.ireturn], [51, 52])]
def zB_125 : List (List Instr × List Nat) := [
  ([.aload 0, .sipush 0, .putfield 716, .aload 0, .getfield 710, .iload 1, .invokevirtual 65, .ifCond .ne 1, .sipush (-1), .ireturn], [0, 1, 2, 5, 6, 9, 10, 13, 16, 17, 18]),
  ([.aload 0, .aload 0, .getfield 710, .iload 1, .iload 2, .sipush 1, .invokevirtual 68, .invokevirtual 136, .istore 4, .iload 4, .ifCond .eq 2, .iload 4, .ireturn], [18, 19, 20, 23, 24, 25, 26, 29, 32, 34, 36, 39, 41, 42]),
  ([.aload 0, .getfield 710, .getfield 514, .iload 1, .aaload, .iload 2, .aload 0, .getfield 710, .getfield 512, .iload 1, .iaload, .iload 3, .invokestatic 67, .iastore, .sipush 1, .ireturn], [42, 43, 46, 49, 50, 51, 52, 53, 56, 59, 60, 61, 62, 65, 66, 67, 68])]
def zB_126 : List (List Instr × List Nat) := [
  ([.aload 0, .iload 1, .iload 3, .iload 2, .sipush 1, .invokevirtual 137, .istore 4, .iload 4, .ifCond .eq 1, .ldc2_w 0, .goto 2], [0, 1, 2, 3, 4, 5, 8, 10, 12, 15, 18, 21]),
  ([.aload 0, .getfield 710, .getfield 515, .sipush 0, .iaload, .i2l], [21, 22, 25, 28, 29, 30, 31]),
  ([.lreturn], [31, 32])]
def zB_127 : List (List Instr × List Nat) := [
  ([.aload 0, .getfield 704, .iload 1, .invokevirtual 82, .ifCond .ne 1, .sipush (-1), .ireturn], [0, 1, 4, 5, 8, 11, 12, 13]),
  ([.aload 0, .getfield 704, .getfield 640, .iload 1, .iaload, .lookupswitch 4 #[(1, 2), (2, 3)]], [13, 14, 17, 20, 21, 22, 48]),
  ([.aload 0, .iload 1, .invokevirtual 144, .ireturn], [48, 49, 50, 53, 54]),
  ([.aload 0, .iload 1, .invokevirtual 145, .ireturn], [54, 55, 56, 59, 60]),
  ([.aload 0, .iload 1, .invokevirtual 143, .ireturn], [60, 61, 62, 65, 66])]
def zB_128 : List (List Instr × List Nat) := [
  ([.aload 0, .getfield 704, .iload 1, .invokevirtual 82, .ifCond .ne 1, .sipush (-1), .ireturn], [0, 1, 4, 5, 8, 11, 12, 13]),
  ([.aload 0, .getfield 704, .getfield 640, .iload 1, .iaload, .sipush 2, .if_icmp .ne 2, .aload 0, .invokevirtual 147, .goto 3], [13, 14, 17, 20, 21, 22, 23, 26, 27, 30, 33]),
  ([.aload 0, .iload 1, .invokevirtual 146], [33, 34, 35, 38]),
  ([.ireturn], [38, 39])]
def zB_129 : List (List Instr × List Nat) := [
  ([.aload 0, .sipush 0, .putfield 716, .aload 0, .getfield 704, .iload 1, .invokevirtual 82, .ifCond .ne 1, .sipush (-1), .ireturn], [0, 1, 2, 5, 6, 9, 10, 13, 16, 17, 18]),
  ([.iload 2, .sipush 0, .sipush 2, .invokestatic 133, .ifCond .ne 2, .sipush (-2), .ireturn], [18, 19, 20, 21, 24, 27, 29, 30]),
  ([.aload 0, .getfield 704, .getfield 640, .iload 1, .iaload, .iload 2, .if_icmp .ge 3, .aload 0, .sipush 2, .invokevirtual 136, .goto 4], [30, 31, 34, 37, 38, 39, 40, 43, 44, 45, 48, 51]),
  ([.sipush 1], [51, 52]),
  ([.ireturn], [52, 53])]
def zB_130 : List (List Instr × List Nat) := [
  ([.aload 0, .getfield 715, .ireturn], [0, 1, 4, 5])]
def zB_131 : List (List Instr × List Nat) := [
  ([.aload 0, .getfield 716, .ireturn], [0, 1, 4, 5])]
def zB_132 : List (List Instr × List Nat) := [
  ([.iload 1, .lookupswitch 9 #[(0, 1), (1, 2), (2, 3), (3, 4), (4, 5), (5, 6), (6, 7), (7, 8)]], [0, 1, 48]),
  ([.aload 0, .getfield 704, .getfield 645, .ireturn], [48, 49, 52, 55, 56]),
  ([.aload 0, .getfield 705, .getfield 452, .ireturn], [56, 57, 60, 63, 64]),
  ([.aload 0, .getfield 706, .getfield 197, .ireturn], [64, 65, 68, 71, 72]),
  ([.aload 0, .getfield 707, .getfield 259, .ireturn], [72, 73, 76, 79, 80]),
  ([.aload 0, .getfield 708, .getfield 68, .ireturn], [80, 81, 84, 87, 88]),
  ([.aload 0, .getfield 709, .getfield 579, .ireturn], [88, 89, 92, 95, 96]),
  ([.aload 0, .getfield 711, .getfield 385, .ireturn], [96, 97, 100, 103, 104]),
  ([.aload 0, .getfield 712, .getfield 1, .ireturn], [104, 105, 108, 111, 112]),
  ([.sipush (-2), .ireturn], [112, 114, 115])]
def zB_133 : List (List Instr × List Nat) := [
  ([.iload 0, .iload 1, .if_icmp .lt 1, .iload 0, .iload 2, .if_icmp .gt 1, .sipush 1, .goto 2], [0, 1, 2, 5, 6, 7, 10, 11, 14]),
  ([.sipush 0], [14, 15]),
  ([.ireturn], [15, 16])]
def zB_134 : List (List Instr × List Nat) := [
  ([.iload 0, .sipush 0, .sipush 2, .invokestatic 133, .ireturn], [0, 1, 2, 3, 6, 7])]
def zB_135 : List (List Instr × List Nat) := [
  ([.sipush 0, .istore 3, .sipush 0, .istore 4], [0, 1, 2, 3, 5]),
  ([.iload 4, .iload 1, .if_icmp .ge 3, .iload 4, .aload 0, .arraylength, .if_icmp .ge 3, .aload 0, .iload 4, .iaload, .iload 2, .if_icmp .ne 2, .iinc 3 1], [5, 7, 8, 11, 13, 14, 15, 18, 19, 21, 22, 23, 26, 29]),
  ([.iinc 4 1, .goto 1], [29, 32, 35]),
  ([.iload 3, .ireturn], [35, 36, 37])]
def zB_136 : List (List Instr × List Nat) := [
  ([.aload 0, .iload 1, .putfield 716, .iload 1, .ifCond .ne 1, .sipush 0, .goto 2], [0, 1, 2, 5, 6, 9, 10, 13]),
  ([.sipush (-10), .iload 1, .isub], [13, 15, 16, 17]),
  ([.ireturn], [17, 18])]
def zB_137 : List (List Instr × List Nat) := [
  ([.aload 0, .sipush 0, .putfield 716, .aload 0, .getfield 710, .iload 1, .invokevirtual 65, .ifCond .ne 1, .sipush (-1), .ireturn], [0, 1, 2, 5, 6, 9, 10, 13, 16, 17, 18]),
  ([.iload 2, .invokestatic 134, .ifCond .eq 2, .aload 0, .aload 0, .getfield 710, .iload 1, .iload 2, .iload 3, .iload 4, .invokevirtual 69, .invokevirtual 136, .goto 3], [18, 19, 22, 25, 26, 27, 30, 31, 32, 33, 35, 38, 41, 44]),
  ([.sipush (-2)], [44, 46]),
  ([.ireturn], [46, 47])]
def zB_138 : List (List Instr × List Nat) := [
  ([.aload 0, .iload 1, .iload 2, .iload 3, .aload 0, .getfield 705, .getfield 452, .invokevirtual 137, .istore 4, .iload 4, .ifCond .eq 1, .iload 4, .ireturn], [0, 1, 2, 3, 4, 5, 8, 11, 14, 16, 18, 21, 23, 24]),
  ([.aload 0, .getfield 713, .aload 0, .getfield 705, .aload 0, .getfield 704, .invokevirtual 21, .aload 0, .getfield 713, .aload 0, .getfield 710, .getfield 515, .invokevirtual 34, .ifCond .eq 2, .sipush 0, .goto 3], [24, 25, 28, 29, 32, 33, 36, 39, 40, 43, 44, 47, 50, 53, 56, 57, 60]),
  ([.sipush (-2)], [60, 62]),
  ([.ireturn], [62, 63])]
def zB_139 : List (List Instr × List Nat) := [
  ([.aload 0, .getfield 705, .iload 1, .iload 2, .aload 0, .getfield 704, .getfield 641, .iload 2, .iaload, .invokevirtual 64, .ireturn], [0, 1, 4, 5, 6, 7, 10, 13, 14, 15, 18, 19])]
def zB_140 : List (List Instr × List Nat) := [
  ([.sipush 0, .istore 2, .sipush 0, .istore 3], [0, 1, 2, 3, 4]),
  ([.iload 3, .aload 0, .getfield 704, .getfield 645, .if_icmp .ge 3, .aload 0, .iload 1, .iload 3, .invokevirtual 139, .ifCond .eq 2, .iload 2, .sipush 1, .iload 3, .ishl, .ior, .istore 2], [4, 5, 6, 9, 12, 15, 16, 17, 18, 21, 24, 25, 26, 27, 28, 29, 30]),
  ([.iinc 3 1, .goto 1], [30, 33, 36]),
  ([.iload 2, .ireturn], [36, 37, 38])]
def zB_141 : List (List Instr × List Nat) := [
  ([.aload 0, .getfield 709, .aload 0, .getfield 706, .getfield 193, .iload 1, .iaload, .aload 0, .getfield 706, .getfield 194, .iload 1, .iaload, .aload 0, .getfield 706, .getfield 195, .iload 1, .iaload, .invokevirtual 74, .istore 2, .aload 0, .getfield 712, .aload 0, .getfield 706, .iload 1, .iload 2, .aload 0, .getfield 705, .getfield 448, .aload 0, .getfield 706, .getfield 192, .iload 1, .iaload, .iaload, .invokevirtual 6, .ireturn], [0, 1, 4, 5, 8, 11, 12, 13, 14, 17, 20, 21, 22, 23, 26, 29, 30, 31, 34, 35, 36, 39, 40, 43, 44, 45, 46, 49, 52, 53, 56, 59, 60, 61, 62, 65, 66])]
def zB_142 : List (List Instr × List Nat) := [
  ([.aload 0, .sipush 31, .aload 0, .getfield 715, .imul, .iload 1, .iadd, .putfield 715, .return_], [0, 1, 3, 4, 7, 8, 9, 10, 13, 14])]
def zB_143 : List (List Instr × List Nat) := [
  ([.aload 0, .sipush 1, .invokevirtual 142, .aload 0, .getfield 704, .getfield 641, .iload 1, .iaload, .ireturn], [0, 1, 2, 5, 6, 9, 12, 13, 14, 15])]
def zB_144 : List (List Instr × List Nat) := [
  ([.aload 0, .sipush 2, .invokevirtual 142, .aload 0, .iload 1, .invokevirtual 143, .aload 0, .getfield 704, .getfield 643, .iload 1, .iaload, .iadd, .ireturn], [0, 1, 2, 5, 6, 7, 10, 11, 14, 17, 18, 19, 20, 21])]
def zB_145 : List (List Instr × List Nat) := [
  ([.aload 0, .sipush 3, .invokevirtual 142, .aload 0, .iload 1, .invokevirtual 144, .istore 2, .iload 2, .aload 0, .iload 1, .invokevirtual 143, .iadd, .ireturn], [0, 1, 2, 5, 6, 7, 10, 11, 12, 13, 14, 17, 18, 19])]
def zB_146 : List (List Instr × List Nat) := [
  ([.aload 0, .sipush 4, .invokevirtual 142, .iload 1, .ireturn], [0, 1, 2, 5, 6, 7])]
def zB_147 : List (List Instr × List Nat) := [
  ([.aload 0, .sipush 5, .invokevirtual 142, .sipush 70, .ireturn], [0, 1, 2, 5, 7, 8])]
def zB_148 : List (List Instr × List Nat) := [
  ([.aload 0, .iload 1, .putfield 768, .sipush (-10), .iload 1, .isub, .ireturn], [0, 1, 2, 5, 7, 8, 9, 10])]
def zB_149 : List (List Instr × List Nat) := [
  ([.aload 0, .iload 1, .putfield 768, .ldc2_w 5, .lreturn], [0, 1, 2, 5, 8, 9])]
def zB_150 : List (List Instr × List Nat) := [
  ([.iload 0, .iload 1, .if_icmp .lt 1, .iload 0, .iload 2, .if_icmp .gt 1, .sipush 1, .goto 2], [0, 1, 2, 5, 6, 7, 10, 11, 14]),
  ([.sipush 0], [14, 15]),
  ([.ireturn], [15, 16])]
def zB_151 : List (List Instr × List Nat) := [
  ([.iload 0, .sipush 0, .sipush 100000, .invokestatic 150, .ireturn], [0, 1, 2, 4, 7, 8])]
def zB_152 : List (List Instr × List Nat) := [
  ([.iload 1, .ifCond .lt 1, .iload 1, .aload 0, .getfield 770, .if_icmp .ge 1, .sipush 1, .goto 2], [0, 1, 4, 5, 6, 9, 12, 13, 16]),
  ([.sipush 0], [16, 17]),
  ([.ireturn], [17, 18])]
def zB_153 : List (List Instr × List Nat) := [
  ([.iload 1, .ifCond .lt 1, .iload 1, .aload 0, .getfield 774, .if_icmp .ge 1, .sipush 1, .goto 2], [0, 1, 4, 5, 6, 9, 12, 13, 16]),
  ([.sipush 0], [16, 17]),
  ([.ireturn], [17, 18])]
def zB_154 : List (List Instr × List Nat) := [
  ([.iload 1, .sipush 0, .sipush 2, .invokestatic 150, .ifCond .eq 1, .iload 2, .sipush 0, .sipush 9, .invokestatic 150, .ifCond .eq 1, .iload 3, .sipush 1, .sipush 1000000, .invokestatic 150, .ifCond .ne 2], [0, 1, 2, 3, 6, 9, 10, 11, 13, 16, 19, 20, 21, 23, 26, 29]),
  ([.sipush (-2), .ireturn], [29, 31, 32]),
  ([.aload 0, .getfield 770, .sipush 10, .if_icmp .ne 3, .sipush (-4), .ireturn], [32, 33, 36, 38, 41, 43, 44]),
  ([.aload 0, .getfield 771, .aload 0, .getfield 770, .iload 1, .iastore, .aload 0, .getfield 772, .aload 0, .getfield 770, .iload 2, .iastore, .aload 0, .getfield 773, .aload 0, .getfield 770, .iload 3, .iastore, .aload 0, .dup, .getfield 770, .sipush 1, .iadd, .putfield 770, .aload 0, .getfield 770, .sipush 1, .isub, .ireturn], [44, 45, 48, 49, 52, 53, 54, 55, 58, 59, 62, 63, 64, 65, 68, 69, 72, 73, 74, 75, 76, 79, 80, 81, 84, 85, 88, 89, 90, 91])]
def zB_155 : List (List Instr × List Nat) := [
  ([.iload 1, .sipush 0, .sipush 99, .invokestatic 150, .ifCond .ne 1, .sipush (-2), .ireturn], [0, 1, 2, 4, 7, 10, 12, 13]),
  ([.aload 0, .getfield 774, .sipush 10, .if_icmp .ne 2, .sipush (-4), .ireturn], [13, 14, 17, 19, 22, 24, 25]),
  ([.aload 0, .getfield 775, .aload 0, .getfield 774, .iload 1, .iastore, .aload 0, .dup, .getfield 774, .sipush 1, .iadd, .putfield 774, .aload 0, .getfield 774, .sipush 1, .isub, .ireturn], [25, 26, 29, 30, 33, 34, 35, 36, 37, 40, 41, 42, 45, 46, 49, 50, 51, 52])]
def zB_156 : List (List Instr × List Nat) := [
  ([.aload 0, .iload 1, .invokevirtual 153, .ifCond .eq 1, .aload 0, .iload 2, .invokevirtual 152, .ifCond .ne 2], [0, 1, 2, 5, 8, 9, 10, 13, 16]),
  ([.sipush (-1), .ireturn], [16, 17, 18]),
  ([.iload 3, .sipush 0, .sipush 99, .invokestatic 150, .ifCond .ne 3, .sipush (-2), .ireturn], [18, 19, 20, 22, 25, 28, 30, 31]),
  ([.aload 0, .getfield 776, .sipush 10, .iload 1, .imul, .iload 2, .iadd, .iaload, .istore 4, .aload 0, .getfield 776, .sipush 10, .iload 1, .imul, .iload 2, .iadd, .iload 3, .iastore, .iload 4, .ireturn], [31, 32, 35, 37, 38, 39, 40, 41, 42, 44, 45, 48, 50, 51, 52, 53, 54, 55, 56, 58, 59])]
def zB_157 : List (List Instr × List Nat) := [
  ([.aload 0, .iload 1, .invokevirtual 153, .ifCond .ne 1, .sipush (-1), .ireturn], [0, 1, 2, 5, 8, 9, 10]),
  ([.iload 2, .sipush 0, .sipush 9, .invokestatic 150, .ifCond .ne 2, .sipush (-2), .ireturn], [10, 11, 12, 14, 17, 20, 22, 23]),
  ([.aload 0, .getfield 777, .sipush 10, .iload 1, .imul, .iload 2, .iadd, .baload, .iload 3, .if_icmp .ne 3, .sipush 0, .goto 4], [23, 24, 27, 29, 30, 31, 32, 33, 34, 35, 38, 39, 42]),
  ([.sipush 1], [42, 43]),
  ([.istore 4, .aload 0, .getfield 777, .sipush 10, .iload 1, .imul, .iload 2, .iadd, .iload 3, .bastore, .iload 4, .ireturn], [43, 45, 46, 49, 51, 52, 53, 54, 55, 56, 57, 59, 60])]
def zB_158 : List (List Instr × List Nat) := [
  ([.aload 0, .getfield 777, .sipush 10, .iload 1, .imul, .iload 2, .iadd, .baload, .ifCond .eq 1, .sipush 1, .ireturn], [0, 1, 4, 6, 7, 8, 9, 10, 11, 14, 15, 16]),
  ([.sipush 0, .istore 3], [16, 17, 18]),
  ([.iload 3, .aload 0, .getfield 787, .if_icmp .ge 4, .aload 0, .getfield 788, .iload 3, .iaload, .iload 1, .if_icmp .ne 3, .aload 0, .getfield 772, .aload 0, .getfield 789, .iload 3, .iaload, .iaload, .iload 2, .if_icmp .ne 3, .sipush 1, .ireturn], [18, 19, 20, 23, 26, 27, 30, 31, 32, 33, 36, 37, 40, 41, 44, 45, 46, 47, 48, 51, 52, 53]),
  ([.iinc 3 1, .goto 2], [53, 56, 59]),
  ([.sipush 0, .ireturn], [59, 60, 61])]
def zB_159 : List (List Instr × List Nat) := [
  ([.aload 0, .getfield 776, .sipush 10, .iload 1, .imul, .iload 2, .iadd, .iaload, .ifCond .le 1, .aload 0, .iload 1, .aload 0, .getfield 772, .iload 2, .iaload, .invokevirtual 158, .ifCond .ne 1, .sipush 1, .goto 2], [0, 1, 4, 6, 7, 8, 9, 10, 11, 14, 15, 16, 17, 20, 21, 22, 25, 28, 29, 32]),
  ([.sipush 0], [32, 33]),
  ([.ireturn], [33, 34])]
def zB_160 : List (List Instr × List Nat) := [
  ([.aload 0, .iload 1, .invokevirtual 153, .ifCond .eq 1, .aload 0, .iload 2, .invokevirtual 152, .ifCond .ne 2], [0, 1, 2, 5, 8, 9, 10, 13, 16]),
  ([.sipush (-1), .ireturn], [16, 17, 18]),
  ([.aload 0, .iload 1, .iload 2, .invokevirtual 159, .ifCond .eq 3, .sipush 1, .goto 4], [18, 19, 20, 21, 24, 27, 28, 31]),
  ([.sipush 0], [31, 32]),
  ([.ireturn], [32, 33])]
def zB_161 : List (List Instr × List Nat) := [
  ([.sipush 0, .istore 3, .sipush 0, .istore 4], [0, 1, 2, 3, 5]),
  ([.iload 4, .iload 1, .if_icmp .ge 4, .iload 3, .aload 0, .iload 4, .iaload, .iload 2, .if_icmp .ne 2, .sipush 1, .goto 3], [5, 7, 8, 11, 12, 13, 15, 16, 17, 20, 21, 24]),
  ([.sipush 0], [24, 25]),
  ([.iadd, .istore 3, .iinc 4 1, .goto 1], [25, 26, 27, 30, 33]),
  ([.iload 3, .ireturn], [33, 34, 35])]
def zB_162 : List (List Instr × List Nat) := [
  ([.aload 0, .iload 1, .invokevirtual 152, .ifCond .ne 1, .sipush (-1), .ireturn], [0, 1, 2, 5, 8, 9, 10]),
  ([.iload 2, .lookupswitch 10 #[(0, 2), (1, 3), (2, 4), (3, 5), (4, 6), (5, 7), (6, 8), (7, 9)]], [10, 11, 56]),
  ([.aload 0, .getfield 771, .iload 1, .iaload, .ireturn], [56, 57, 60, 61, 62, 63]),
  ([.aload 0, .getfield 772, .iload 1, .iaload, .ireturn], [63, 64, 67, 68, 69, 70]),
  ([.aload 0, .getfield 773, .iload 1, .iaload, .ireturn], [70, 71, 74, 75, 76, 77]),
  ([.aload 0, .getfield 822, .iload 1, .iaload, .ireturn], [77, 78, 81, 82, 83, 84]),
  ([.aload 0, .getfield 789, .aload 0, .getfield 787, .iload 1, .invokestatic 161, .ireturn], [84, 85, 88, 89, 92, 93, 96, 97]),
  ([.aload 0, .getfield 794, .aload 0, .getfield 793, .iload 1, .invokestatic 161, .ireturn], [97, 98, 101, 102, 105, 106, 109, 110]),
  ([.aload 0, .getfield 805, .aload 0, .getfield 804, .iload 1, .invokestatic 161, .ireturn], [110, 111, 114, 115, 118, 119, 122, 123]),
  ([.aload 0, .getfield 814, .aload 0, .getfield 813, .iload 1, .invokestatic 161, .ireturn], [123, 124, 127, 128, 131, 132, 135, 136]),
  ([.sipush (-2), .ireturn], [136, 138, 139])]
def zB_163 : List (List Instr × List Nat) := [
  ([.aload 0, .iload 1, .invokevirtual 153, .ifCond .ne 1, .sipush (-1), .ireturn], [0, 1, 2, 5, 8, 9, 10]),
  ([.sipush 0, .istore 3, .iload 2, .lookupswitch 14 #[(0, 2), (1, 3), (2, 8), (3, 13)]], [10, 11, 12, 13, 44]),
  ([.aload 0, .getfield 775, .iload 1, .iaload, .ireturn], [44, 45, 48, 49, 50, 51]),
  ([.sipush 0, .istore 4], [51, 52, 54]),
  ([.iload 4, .sipush 10, .if_icmp .ge 7, .iload 3, .aload 0, .iload 1, .iload 4, .invokevirtual 158, .ifCond .eq 5, .sipush 1, .iload 4, .ishl, .goto 6], [54, 56, 58, 61, 62, 63, 64, 66, 69, 72, 73, 75, 76, 79]),
  ([.sipush 0], [79, 80]),
  ([.ior, .istore 3, .iinc 4 1, .goto 4], [80, 81, 82, 85, 88]),
  ([.iload 3, .ireturn], [88, 89, 90]),
  ([.sipush 0, .istore 4], [90, 91, 93]),
  ([.iload 4, .aload 0, .getfield 770, .if_icmp .ge 12, .iload 3, .aload 0, .iload 1, .iload 4, .invokevirtual 159, .ifCond .eq 10, .sipush 1, .iload 4, .ishl, .goto 11], [93, 95, 96, 99, 102, 103, 104, 105, 107, 110, 113, 114, 116, 117, 120]),
  ([.sipush 0], [120, 121]),
  ([.ior, .istore 3, .iinc 4 1, .goto 9], [121, 122, 123, 126, 129]),
  ([.iload 3, .ireturn], [129, 130, 131]),
  ([.aload 0, .getfield 788, .aload 0, .getfield 787, .iload 1, .invokestatic 161, .ireturn], [131, 132, 135, 136, 139, 140, 143, 144]),
  ([.sipush (-2), .ireturn], [144, 146, 147])]
def zB_164 : List (List Instr × List Nat) := [
  ([.sipush 0, .istore 1], [0, 1, 2]),
  ([.iload 1, .aload 0, .getfield 774, .if_icmp .ge 4, .sipush 0, .istore 2], [2, 3, 4, 7, 10, 11, 12]),
  ([.iload 2, .aload 0, .getfield 770, .if_icmp .ge 3, .aload 0, .getfield 779, .sipush 10, .iload 1, .imul, .iload 2, .iadd, .aload 0, .iload 1, .iload 2, .invokevirtual 159, .bastore, .iinc 2 1, .goto 2], [12, 13, 14, 17, 20, 21, 24, 26, 27, 28, 29, 30, 31, 32, 33, 36, 37, 40, 43]),
  ([.iinc 1 1, .goto 1], [43, 46, 49]),
  ([.return_], [49, 50])]
def zB_165 : List (List Instr × List Nat) := [
  ([.aload 0, .invokevirtual 164, .sipush 0, .istore 1], [0, 1, 4, 5, 6]),
  ([.iload 1, .sipush 1, .aload 0, .getfield 770, .ishl, .if_icmp .ge 2, .aload 0, .getfield 778, .sipush 1024, .aload 0, .getfield 774, .imul, .iload 1, .iadd, .sipush 0, .iastore, .iinc 1 1, .goto 1], [6, 7, 8, 9, 12, 13, 16, 17, 20, 23, 24, 27, 28, 29, 30, 31, 32, 35, 38]),
  ([.aload 0, .getfield 774, .sipush 1, .isub, .istore 1], [38, 39, 42, 43, 44, 45]),
  ([.iload 1, .ifCond .lt 11, .sipush 0, .istore 2], [45, 46, 49, 50, 51]),
  ([.iload 2, .sipush 1, .aload 0, .getfield 770, .ishl, .if_icmp .ge 10, .aload 0, .getfield 778, .sipush 1024, .iload 1, .imul, .sipush 1024, .iadd, .iload 2, .iadd, .iaload, .istore 3, .sipush 0, .istore 4], [51, 52, 53, 54, 57, 58, 61, 62, 65, 68, 69, 70, 73, 74, 75, 76, 77, 78, 79, 81]),
  ([.iload 4, .aload 0, .getfield 770, .if_icmp .ge 9, .iload 2, .iload 4, .ishr, .sipush 1, .iand, .ifCond .ne 8, .aload 0, .getfield 779, .sipush 10, .iload 1, .imul, .iload 4, .iadd, .baload, .ifCond .eq 8, .aload 0, .getfield 776, .sipush 10, .iload 1, .imul, .iload 4, .iadd, .iaload, .aload 0, .getfield 778, .sipush 1024, .iload 1, .imul, .sipush 1024, .iadd, .iload 2, .sipush 1, .iload 4, .ishl, .ior, .iadd, .iaload, .iadd, .istore 5, .iload 5, .iload 3, .if_icmp .le 6, .iload 5, .goto 7], [81, 83, 84, 87, 90, 91, 93, 94, 95, 96, 99, 100, 103, 105, 106, 107, 109, 110, 111, 114, 115, 118, 120, 121, 122, 124, 125, 126, 127, 130, 133, 134, 135, 138, 139, 140, 141, 143, 144, 145, 146, 147, 148, 150, 152, 153, 156, 158, 161]),
  ([.iload 3], [161, 162]),
  ([.istore 3], [162, 163]),
  ([.iinc 4 1, .goto 5], [163, 166, 169]),
  ([.aload 0, .getfield 778, .sipush 1024, .iload 1, .imul, .iload 2, .iadd, .iload 3, .iastore, .iinc 2 1, .goto 4], [169, 170, 173, 176, 177, 178, 179, 180, 181, 182, 185, 188]),
  ([.iinc 1 (-1), .goto 3], [188, 191, 194]),
  ([.return_], [194, 195])]
def zB_166 : List (List Instr × List Nat) := [
  ([.aload 0, .invokevirtual 165, .aload 0, .getfield 778, .sipush 0, .iaload, .ireturn], [0, 1, 4, 5, 8, 9, 10, 11])]
def zB_167 : List (List Instr × List Nat) := [
  ([.aload 0, .invokevirtual 165, .sipush 0, .istore 1, .sipush 0, .istore 2], [0, 1, 4, 5, 6, 7, 8]),
  ([.iload 2, .aload 0, .getfield 774, .if_icmp .ge 9, .aload 0, .getfield 780, .iload 2, .sipush (-9), .iastore, .aload 0, .getfield 770, .sipush 1, .isub, .istore 3], [8, 9, 10, 13, 16, 17, 20, 21, 23, 24, 25, 28, 29, 30, 31]),
  ([.iload 3, .ifCond .lt 6, .iload 1, .iload 3, .ishr, .sipush 1, .iand, .ifCond .ne 3, .aload 0, .getfield 779, .sipush 10, .iload 2, .imul, .iload 3, .iadd, .baload, .ifCond .eq 3, .sipush 1, .goto 4], [31, 32, 35, 36, 37, 38, 39, 40, 43, 44, 47, 49, 50, 51, 52, 53, 54, 57, 58, 61]),
  ([.sipush 0], [61, 62]),
  ([.istore 4, .iload 4, .ifCond .eq 5, .aload 0, .getfield 776, .sipush 10, .iload 2, .imul, .iload 3, .iadd, .iaload, .aload 0, .getfield 778, .sipush 1024, .iload 2, .imul, .sipush 1024, .iadd, .iload 1, .sipush 1, .iload 3, .ishl, .ior, .iadd, .iaload, .iadd, .aload 0, .getfield 778, .sipush 1024, .iload 2, .imul, .iload 1, .iadd, .iaload, .if_icmp .ne 5, .aload 0, .getfield 780, .iload 2, .iload 3, .iastore], [62, 64, 66, 69, 70, 73, 75, 76, 77, 78, 79, 80, 81, 84, 87, 88, 89, 92, 93, 94, 95, 96, 97, 98, 99, 100, 101, 102, 105, 108, 109, 110, 111, 112, 113, 116, 117, 120, 121, 122, 123]),
  ([.iinc 3 (-1), .goto 2], [123, 126, 129]),
  ([.iload 1, .aload 0, .getfield 780, .iload 2, .iaload, .sipush (-9), .if_icmp .ne 7, .sipush 0, .goto 8], [129, 130, 131, 134, 135, 136, 138, 141, 142, 145]),
  ([.sipush 1, .aload 0, .getfield 780, .iload 2, .iaload, .ishl], [145, 146, 147, 150, 151, 152, 153]),
  ([.ior, .istore 1, .iinc 2 1, .goto 1], [153, 154, 155, 158, 161]),
  ([.return_], [161, 162])]
def zB_168 : List (List Instr × List Nat) := [
  ([.aload 0, .getfield 776, .sipush 10, .iload 1, .imul, .iload 2, .iadd, .iaload, .aload 0, .getfield 776, .sipush 10, .iload 1, .imul, .iload 3, .iadd, .iaload, .isub, .istore 4, .iload 4, .ifCond .gt 1, .iload 4, .ifCond .ne 2, .iload 2, .iload 3, .if_icmp .ge 2], [0, 1, 4, 6, 7, 8, 9, 10, 11, 12, 15, 17, 18, 19, 20, 21, 22, 23, 25, 27, 30, 32, 35, 36, 37, 40]),
  ([.sipush 1, .goto 3], [40, 41, 44]),
  ([.sipush 0], [44, 45]),
  ([.ireturn], [45, 46])]
def zB_169 : List (List Instr × List Nat) := [
  ([.aload 0, .getfield 775, .iload 1, .iaload, .aload 0, .getfield 775, .iload 2, .iaload, .if_icmp .gt 1, .aload 0, .getfield 775, .iload 1, .iaload, .aload 0, .getfield 775, .iload 2, .iaload, .if_icmp .ne 2, .iload 1, .iload 2, .if_icmp .ge 2], [0, 1, 4, 5, 6, 7, 10, 11, 12, 15, 16, 19, 20, 21, 22, 25, 26, 27, 30, 31, 32, 35]),
  ([.sipush 1, .goto 3], [35, 36, 39]),
  ([.sipush 0], [39, 40]),
  ([.ireturn], [40, 41])]
def zB_170 : List (List Instr × List Nat) := [
  ([.sipush (-9), .istore 2, .sipush 0, .istore 3], [0, 2, 3, 4, 5]),
  ([.iload 3, .aload 0, .getfield 770, .if_icmp .ge 4, .aload 0, .getfield 779, .sipush 10, .iload 1, .imul, .iload 3, .iadd, .baload, .ifCond .eq 3, .aload 0, .getfield 781, .sipush 10, .iload 1, .imul, .iload 3, .iadd, .baload, .ifCond .ne 3, .iload 2, .sipush (-9), .if_icmp .eq 2, .aload 0, .iload 1, .iload 3, .iload 2, .invokevirtual 168, .ifCond .eq 3], [5, 6, 7, 10, 13, 14, 17, 19, 20, 21, 22, 23, 24, 27, 28, 31, 33, 34, 35, 36, 37, 38, 41, 42, 44, 47, 48, 49, 50, 51, 54, 57]),
  ([.iload 3, .istore 2], [57, 58, 59]),
  ([.iinc 3 1, .goto 1], [59, 62, 65]),
  ([.iload 2, .ireturn], [65, 66, 67])]
def zB_171 : List (List Instr × List Nat) := [
  ([.aload 0, .invokevirtual 164, .sipush 0, .istore 1], [0, 1, 4, 5, 6]),
  ([.iload 1, .sipush 100, .if_icmp .ge 2, .aload 0, .getfield 781, .iload 1, .sipush 0, .bastore, .iinc 1 1, .goto 1], [6, 7, 9, 12, 13, 16, 17, 18, 19, 22, 25]),
  ([.sipush 0, .istore 1], [25, 26, 27]),
  ([.iload 1, .sipush 10, .if_icmp .ge 4, .aload 0, .getfield 782, .iload 1, .sipush (-9), .iastore, .aload 0, .getfield 780, .iload 1, .sipush (-9), .iastore, .iinc 1 1, .goto 3], [27, 28, 30, 33, 34, 37, 38, 40, 41, 42, 45, 46, 48, 49, 52, 55]),
  ([.sipush 1, .istore 1], [55, 56, 57]),
  ([.iload 1, .ifCond .eq 14, .sipush 0, .istore 1, .sipush 0, .istore 2], [57, 58, 61, 62, 63, 64, 65]),
  ([.iload 2, .aload 0, .getfield 774, .if_icmp .ge 13, .aload 0, .getfield 780, .iload 2, .iaload, .sipush (-9), .if_icmp .ne 7, .aload 0, .iload 2, .invokevirtual 170, .goto 8], [65, 66, 67, 70, 73, 74, 77, 78, 79, 81, 84, 85, 86, 89, 92]),
  ([.sipush (-9)], [92, 94]),
  ([.istore 3, .iload 3, .sipush (-9), .if_icmp .ne 9, .goto 12], [94, 95, 96, 98, 101, 104]),
  ([.sipush 1, .istore 1, .aload 0, .getfield 781, .sipush 10, .iload 2, .imul, .iload 3, .iadd, .sipush 1, .bastore, .aload 0, .getfield 782, .iload 3, .iaload, .istore 4, .iload 4, .sipush (-9), .if_icmp .eq 10, .aload 0, .iload 2, .iload 4, .invokevirtual 169, .ifCond .eq 12], [104, 105, 106, 107, 110, 112, 113, 114, 115, 116, 117, 118, 119, 122, 123, 124, 126, 128, 130, 133, 134, 135, 137, 140, 143]),
  ([.iload 4, .sipush (-9), .if_icmp .eq 11, .aload 0, .getfield 780, .iload 4, .sipush (-9), .iastore], [143, 145, 147, 150, 151, 154, 156, 158, 159]),
  ([.aload 0, .getfield 782, .iload 3, .iload 2, .iastore, .aload 0, .getfield 780, .iload 2, .iload 3, .iastore], [159, 160, 163, 164, 165, 166, 167, 170, 171, 172, 173]),
  ([.iinc 2 1, .goto 6], [173, 176, 179]),
  ([.goto 5], [179, 182]),
  ([.return_], [182, 183])]
def zB_172 : List (List Instr × List Nat) := [
  ([.aload 0, .iload 1, .invokevirtual 153, .ifCond .ne 1, .sipush (-1), .ireturn], [0, 1, 2, 5, 8, 9, 10]),
  ([.iload 2, .sipush 0, .sipush 1, .invokestatic 150, .ifCond .ne 2, .sipush (-2), .ireturn], [10, 11, 12, 13, 16, 19, 21, 22]),
  ([.iload 2, .ifCond .ne 3, .aload 0, .invokevirtual 167, .goto 4], [22, 23, 26, 27, 30, 33]),
  ([.aload 0, .invokevirtual 171], [33, 34, 37]),
  ([.aload 0, .getfield 780, .iload 1, .iaload, .ireturn], [37, 38, 41, 42, 43, 44])]
def zB_173 : List (List Instr × List Nat) := [
  ([.aload 0, .getfield 783, .iload 1, .iaload, .sipush (-9), .if_icmp .eq 1, .aload 0, .getfield 783, .iload 1, .iaload, .iload 2, .if_icmp .eq 1, .aload 0, .sipush 2, .invokevirtual 148, .ireturn], [0, 1, 4, 5, 6, 8, 11, 12, 15, 16, 17, 18, 21, 22, 23, 26, 27]),
  ([.aload 0, .getfield 783, .iload 1, .iaload, .sipush (-9), .if_icmp .ne 2, .aload 0, .sipush 1, .invokevirtual 148, .ireturn], [27, 28, 31, 32, 33, 35, 38, 39, 40, 43, 44]),
  ([.iload 4, .ifCond .ge 3, .aload 0, .sipush 4, .invokevirtual 148, .ireturn], [44, 46, 49, 50, 51, 54, 55]),
  ([.iload 3, .ifCond .lt 4, .iload 3, .aload 0, .getfield 784, .iload 1, .iaload, .if_icmp .gt 4, .iload 4, .aload 0, .getfield 784, .iload 1, .iaload, .iload 3, .isub, .if_icmp .le 5], [55, 56, 59, 60, 61, 64, 65, 66, 69, 71, 72, 75, 76, 77, 78, 79, 82]),
  ([.aload 0, .sipush 3, .invokevirtual 148, .ireturn], [82, 83, 84, 87, 88]),
  ([.sipush 0, .ireturn], [88, 89, 90])]
def zB_174 : List (List Instr × List Nat) := [
  ([.iload 0, .sipush 0, .sipush 3, .invokestatic 150, .ireturn], [0, 1, 2, 3, 6, 7])]
def zB_175 : List (List Instr × List Nat) := [
  ([.iload 0, .sipush 0, .sipush 2, .invokestatic 150, .ireturn], [0, 1, 2, 3, 6, 7])]
def zB_176 : List (List Instr × List Nat) := [
  ([.sipush 0, .istore 3, .sipush 0, .istore 4], [0, 1, 2, 3, 5]),
  ([.iload 4, .aload 0, .getfield 774, .if_icmp .ge 6, .aload 0, .getfield 785, .sipush 60, .iload 1, .imul, .iload 2, .iadd, .iload 4, .iadd, .iaload, .istore 5, .iload 5, .sipush (-1), .aload 0, .getfield 770, .sipush 1, .isub, .invokestatic 150, .ifCond .eq 2, .iload 5, .ifCond .lt 3, .iload 3, .iload 5, .ishr, .sipush 1, .iand, .sipush 1, .if_icmp .ne 3], [5, 7, 8, 11, 14, 15, 18, 20, 21, 22, 23, 24, 26, 27, 28, 30, 32, 33, 34, 37, 38, 39, 42, 45, 47, 50, 51, 53, 54, 55, 56, 57, 60]),
  ([.sipush 0, .ireturn], [60, 61, 62]),
  ([.aload 0, .getfield 786, .iload 4, .iload 5, .iastore, .iload 3, .iload 5, .ifCond .ge 4, .sipush 0, .goto 5], [62, 63, 66, 68, 70, 71, 72, 74, 77, 78, 81]),
  ([.sipush 1, .iload 5, .ishl], [81, 82, 84, 85]),
  ([.ior, .istore 3, .iinc 4 1, .goto 1], [85, 86, 87, 90, 93]),
  ([.sipush 1, .ireturn], [93, 94, 95])]
def zB_177 : List (List Instr × List Nat) := [
  ([.sipush 0, .istore 1], [0, 1, 2]),
  ([.iload 1, .aload 0, .getfield 774, .if_icmp .ge 3, .aload 0, .getfield 786, .iload 1, .iaload, .ifCond .lt 2, .aload 0, .iload 1, .aload 0, .getfield 786, .iload 1, .iaload, .invokevirtual 159, .ifCond .ne 2, .sipush 0, .ireturn], [2, 3, 4, 7, 10, 11, 14, 15, 16, 19, 20, 21, 22, 25, 26, 27, 30, 33, 34, 35]),
  ([.iinc 1 1, .goto 1], [35, 38, 41]),
  ([.sipush 1, .ireturn], [41, 42, 43])]
def zB_178 : List (List Instr × List Nat) := [
  ([.sipush 0, .istore 2], [0, 1, 2]),
  ([.iload 2, .aload 0, .getfield 774, .if_icmp .ge 3, .aload 0, .getfield 786, .iload 2, .iaload, .iload 1, .if_icmp .ne 2, .iload 2, .ireturn], [2, 3, 4, 7, 10, 11, 14, 15, 16, 17, 20, 21, 22]),
  ([.iinc 2 1, .goto 1], [22, 25, 28]),
  ([.sipush (-9), .ireturn], [28, 30, 31])]
def zB_179 : List (List Instr × List Nat) := [
  ([.aload 0, .iload 1, .iload 2, .invokevirtual 159, .ifCond .eq 1, .aload 0, .getfield 786, .iload 1, .iaload, .ifCond .lt 2, .aload 0, .getfield 776, .sipush 10, .iload 1, .imul, .aload 0, .getfield 786, .iload 1, .iaload, .iadd, .iaload, .aload 0, .getfield 776, .sipush 10, .iload 1, .imul, .iload 2, .iadd, .iaload, .if_icmp .lt 2], [0, 1, 2, 3, 6, 9, 10, 13, 14, 15, 18, 19, 22, 24, 25, 26, 27, 30, 31, 32, 33, 34, 35, 38, 40, 41, 42, 43, 44, 45, 48]),
  ([.sipush 0, .ireturn], [48, 49, 50]),
  ([.aload 0, .iload 2, .invokevirtual 178, .istore 3, .iload 3, .sipush (-9), .if_icmp .eq 3, .aload 0, .iload 1, .iload 3, .invokevirtual 169, .ifCond .eq 4], [50, 51, 52, 55, 56, 57, 59, 62, 63, 64, 65, 68, 71]),
  ([.sipush 1, .goto 5], [71, 72, 75]),
  ([.sipush 0], [75, 76]),
  ([.ireturn], [76, 77])]
def zB_180 : List (List Instr × List Nat) := [
  ([.sipush 0, .istore 2, .sipush 0, .istore 3], [0, 1, 2, 3, 4]),
  ([.iload 3, .aload 0, .getfield 774, .if_icmp .ge 6, .sipush 0, .istore 4], [4, 5, 6, 9, 12, 13, 15]),
  ([.iload 4, .aload 0, .getfield 770, .if_icmp .ge 5, .aload 0, .iload 3, .iload 4, .invokevirtual 179, .ifCond .eq 4, .iload 2, .iload 1, .if_icmp .ne 3, .sipush 10, .iload 3, .imul, .iload 4, .iadd, .ireturn], [15, 17, 18, 21, 24, 25, 26, 28, 31, 34, 35, 36, 39, 41, 42, 43, 45, 46, 47]),
  ([.iinc 2 1], [47, 50]),
  ([.iinc 4 1, .goto 2], [50, 53, 56]),
  ([.iinc 3 1, .goto 1], [56, 59, 62]),
  ([.sipush (-1), .iload 2, .isub, .ireturn], [62, 63, 64, 65, 66])]
def zB_181 : List (List Instr × List Nat) := [
  ([.iload 2, .invokestatic 175, .ifCond .ne 1, .sipush (-2), .ireturn], [0, 1, 4, 7, 9, 10]),
  ([.aload 0, .iload 1, .iload 2, .iload 3, .aload 0, .getfield 774, .invokevirtual 173, .istore 4, .iload 4, .ifCond .eq 2, .iload 4, .ireturn], [10, 11, 12, 13, 14, 15, 18, 21, 23, 25, 28, 30, 31]),
  ([.aload 0, .iload 1, .iload 3, .invokevirtual 176, .ifCond .eq 3, .aload 0, .invokevirtual 177, .ifCond .eq 3, .sipush 0, .goto 4], [31, 32, 33, 34, 37, 40, 41, 44, 47, 48, 51]),
  ([.sipush (-2)], [51, 53]),
  ([.ireturn], [53, 54])]
def zB_182 : List (List Instr × List Nat) := [
  ([.aload 0, .sipush 0, .putfield 768, .iload 1, .invokestatic 174, .ifCond .ne 1, .sipush (-1), .ireturn], [0, 1, 2, 5, 6, 9, 12, 13, 14]),
  ([.aload 0, .iload 1, .iload 2, .iload 3, .invokevirtual 181, .istore 4, .iload 4, .ifCond .eq 2, .iload 4, .goto 3], [14, 15, 16, 17, 18, 21, 23, 25, 28, 30, 33]),
  ([.sipush (-1), .aload 0, .sipush (-1), .invokevirtual 180, .isub], [33, 34, 35, 36, 39, 40]),
  ([.ireturn], [40, 41])]
def zB_183 : List (List Instr × List Nat) := [
  ([.aload 0, .sipush 0, .putfield 768, .iload 1, .invokestatic 174, .ifCond .eq 1, .iload 4, .ifCond .ge 2], [0, 1, 2, 5, 6, 9, 12, 14, 17]),
  ([.sipush (-1), .ireturn], [17, 18, 19]),
  ([.aload 0, .iload 1, .iload 2, .iload 3, .invokevirtual 181, .istore 5, .iload 5, .ifCond .eq 3, .iload 5, .ireturn], [19, 20, 21, 22, 23, 26, 28, 30, 33, 35, 36]),
  ([.aload 0, .iload 4, .invokevirtual 180, .istore 6, .iload 6, .ifCond .ge 4, .sipush (-1), .goto 5], [36, 37, 39, 42, 44, 46, 49, 50, 53]),
  ([.iload 6], [53, 55]),
  ([.ireturn], [55, 56])]
def zB_184 : List (List Instr × List Nat) := [
  ([.iload 1, .ifCond .lt 1, .iload 1, .aload 0, .getfield 787, .if_icmp .ge 1, .sipush 1, .goto 2], [0, 1, 4, 5, 6, 9, 12, 13, 16]),
  ([.sipush 0], [16, 17]),
  ([.ireturn], [17, 18])]
def zB_185 : List (List Instr × List Nat) := [
  ([.sipush 0, .istore 5], [0, 1, 3]),
  ([.iload 5, .aload 0, .getfield 787, .if_icmp .ge 4, .aload 0, .getfield 788, .iload 5, .iaload, .iload 1, .if_icmp .eq 2, .aload 0, .getfield 789, .iload 5, .iaload, .iload 2, .if_icmp .ne 3], [3, 5, 6, 9, 12, 13, 16, 18, 19, 20, 23, 24, 27, 29, 30, 31, 34]),
  ([.aload 0, .getfield 790, .iload 5, .iaload, .iload 4, .if_icmp .gt 3, .iload 3, .aload 0, .getfield 791, .iload 5, .iaload, .if_icmp .gt 3, .sipush 1, .ireturn], [34, 35, 38, 40, 41, 43, 46, 47, 48, 51, 53, 54, 57, 58, 59]),
  ([.iinc 5 1, .goto 1], [59, 62, 65]),
  ([.sipush 0, .ireturn], [65, 66, 67])]
def zB_186 : List (List Instr × List Nat) := [
  ([.aload 0, .iload 1, .invokevirtual 153, .ifCond .eq 1, .aload 0, .iload 2, .invokevirtual 152, .ifCond .ne 2], [0, 1, 2, 5, 8, 9, 10, 13, 16]),
  ([.sipush (-1), .ireturn], [16, 17, 18]),
  ([.iload 3, .invokestatic 151, .ifCond .eq 3, .iload 4, .invokestatic 151, .ifCond .eq 3, .iload 3, .iload 4, .if_icmp .le 4], [18, 19, 22, 25, 27, 30, 33, 34, 36, 39]),
  ([.sipush (-2), .ireturn], [39, 41, 42]),
  ([.aload 0, .iload 1, .iload 2, .invokevirtual 159, .ifCond .eq 5, .aload 0, .iload 1, .iload 2, .iload 3, .iload 4, .invokevirtual 185, .ifCond .eq 6], [42, 43, 44, 45, 48, 51, 52, 53, 54, 55, 57, 60, 63]),
  ([.sipush (-3), .ireturn], [63, 65, 66]),
  ([.aload 0, .getfield 787, .sipush 40, .if_icmp .ne 7, .sipush (-4), .ireturn], [66, 67, 70, 72, 75, 77, 78]),
  ([.aload 0, .getfield 788, .aload 0, .getfield 787, .iload 1, .iastore, .aload 0, .getfield 789, .aload 0, .getfield 787, .iload 2, .iastore, .aload 0, .getfield 790, .aload 0, .getfield 787, .iload 3, .iastore, .aload 0, .getfield 791, .aload 0, .getfield 787, .iload 4, .iastore, .aload 0, .getfield 792, .aload 0, .getfield 787, .sipush (-9), .iastore, .aload 0, .dup, .getfield 787, .sipush 1, .iadd, .putfield 787, .aload 0, .getfield 787, .sipush 1, .isub, .ireturn], [78, 79, 82, 83, 86, 87, 88, 89, 92, 93, 96, 97, 98, 99, 102, 103, 106, 107, 108, 109, 112, 113, 116, 118, 119, 120, 123, 124, 127, 129, 130, 131, 132, 135, 136, 137, 140, 141, 144, 145, 146, 147])]
def zB_187 : List (List Instr × List Nat) := [
  ([.aload 0, .iload 1, .invokevirtual 184, .ifCond .ne 1, .sipush (-1), .ireturn], [0, 1, 2, 5, 8, 9, 10]),
  ([.iload 2, .aload 0, .getfield 790, .iload 1, .iaload, .aload 0, .getfield 791, .iload 1, .iaload, .invokestatic 150, .ifCond .ne 2, .sipush (-2), .ireturn], [10, 11, 12, 15, 16, 17, 18, 21, 22, 23, 26, 29, 31, 32]),
  ([.aload 0, .getfield 791, .iload 1, .iaload, .istore 3, .aload 0, .getfield 791, .iload 1, .iload 2, .iastore, .iload 3, .ireturn], [32, 33, 36, 37, 38, 39, 40, 43, 44, 45, 46, 47, 48])]
def zB_188 : List (List Instr × List Nat) := [
  ([.aload 0, .iload 1, .invokevirtual 184, .ifCond .ne 1, .sipush (-1), .ireturn], [0, 1, 2, 5, 8, 9, 10]),
  ([.iload 2, .invokestatic 151, .ifCond .ne 2, .sipush (-2), .ireturn], [10, 11, 14, 17, 19, 20]),
  ([.aload 0, .getfield 792, .iload 1, .iload 2, .iastore, .sipush 1, .ireturn], [20, 21, 24, 25, 26, 27, 28, 29])]
def zB_189 : List (List Instr × List Nat) := [
  ([.sipush 0, .istore 2, .sipush 0, .istore 3], [0, 1, 2, 3, 4]),
  ([.iload 3, .aload 0, .getfield 813, .if_icmp .ge 4, .iload 2, .aload 0, .getfield 814, .iload 3, .iaload, .aload 0, .getfield 789, .iload 1, .iaload, .if_icmp .ne 2, .aload 0, .getfield 815, .iload 3, .iaload, .aload 0, .getfield 790, .iload 1, .iaload, .aload 0, .getfield 791, .iload 1, .iaload, .invokestatic 150, .ifCond .eq 2, .sipush 1, .goto 3], [4, 5, 6, 9, 12, 13, 14, 17, 18, 19, 20, 23, 24, 25, 28, 29, 32, 33, 34, 35, 38, 39, 40, 41, 44, 45, 46, 49, 52, 53, 56]),
  ([.sipush 0], [56, 57]),
  ([.iadd, .istore 2, .iinc 3 1, .goto 1], [57, 58, 59, 62, 65]),
  ([.iload 2, .ireturn], [65, 66, 67])]
def zB_190 : List (List Instr × List Nat) := [
  ([.sipush 0, .istore 2, .iload 2, .aload 0, .getfield 829, .sipush 0, .iaload, .sipush (-9), .if_icmp .eq 1, .aload 0, .iload 1, .invokevirtual 189, .aload 0, .getfield 829, .sipush 0, .iaload, .if_icmp .le 1, .sipush 1, .goto 2], [0, 1, 2, 3, 4, 7, 8, 9, 11, 14, 15, 16, 19, 20, 23, 24, 25, 28, 29, 32]),
  ([.sipush 0], [32, 33]),
  ([.ior, .istore 2, .iload 2, .aload 0, .getfield 829, .sipush 1, .iaload, .sipush (-9), .if_icmp .eq 4, .aload 0, .getfield 792, .iload 1, .iaload, .sipush (-9), .if_icmp .eq 3, .aload 0, .getfield 791, .iload 1, .iaload, .aload 0, .getfield 792, .iload 1, .iaload, .isub, .aload 0, .getfield 829, .sipush 1, .iaload, .if_icmp .ge 4], [33, 34, 35, 36, 37, 40, 41, 42, 44, 47, 48, 51, 52, 53, 55, 58, 59, 62, 63, 64, 65, 68, 69, 70, 71, 72, 75, 76, 77, 80]),
  ([.sipush 2, .goto 5], [80, 81, 84]),
  ([.sipush 0], [84, 85]),
  ([.ior, .istore 2, .iload 2, .aload 0, .getfield 829, .sipush 2, .iaload, .sipush (-9), .if_icmp .eq 6, .aload 0, .getfield 775, .aload 0, .getfield 788, .iload 1, .iaload, .iaload, .aload 0, .getfield 829, .sipush 2, .iaload, .if_icmp .ge 6, .sipush 4, .goto 7], [85, 86, 87, 88, 89, 92, 93, 94, 96, 99, 100, 103, 104, 107, 108, 109, 110, 111, 114, 115, 116, 119, 120, 123]),
  ([.sipush 0], [123, 124]),
  ([.ior, .istore 2, .iload 2, .aload 0, .getfield 829, .sipush 3, .iaload, .sipush (-9), .if_icmp .eq 8, .aload 0, .getfield 791, .iload 1, .iaload, .aload 0, .getfield 790, .iload 1, .iaload, .isub, .sipush 1, .iadd, .aload 0, .getfield 829, .sipush 3, .iaload, .if_icmp .le 8, .sipush 8, .goto 9], [124, 125, 126, 127, 128, 131, 132, 133, 135, 138, 139, 142, 143, 144, 145, 148, 149, 150, 151, 152, 153, 154, 157, 158, 159, 162, 164, 167]),
  ([.sipush 0], [167, 168]),
  ([.ior, .istore 2, .iload 2, .ireturn], [168, 169, 170, 171, 172])]
def zB_191 : List (List Instr × List Nat) := [
  ([.aload 0, .iload 1, .invokevirtual 184, .ifCond .ne 1, .sipush (-1), .ireturn], [0, 1, 2, 5, 8, 9, 10]),
  ([.iload 2, .lookupswitch 8 #[(0, 2), (1, 3), (2, 4), (3, 5), (4, 6), (5, 7)]], [10, 11, 48]),
  ([.aload 0, .getfield 788, .iload 1, .iaload, .ireturn], [48, 49, 52, 53, 54, 55]),
  ([.aload 0, .getfield 789, .iload 1, .iaload, .ireturn], [55, 56, 59, 60, 61, 62]),
  ([.aload 0, .getfield 790, .iload 1, .iaload, .ireturn], [62, 63, 66, 67, 68, 69]),
  ([.aload 0, .getfield 791, .iload 1, .iaload, .ireturn], [69, 70, 73, 74, 75, 76]),
  ([.aload 0, .getfield 792, .iload 1, .iaload, .ireturn], [76, 77, 80, 81, 82, 83]),
  ([.aload 0, .iload 1, .invokevirtual 190, .ireturn], [83, 84, 85, 88, 89]),
  ([.sipush (-2), .ireturn], [89, 91, 92])]
def zB_192 : List (List Instr × List Nat) := [
  ([.sipush 0, .istore 4], [0, 1, 3]),
  ([.iload 4, .aload 0, .getfield 787, .if_icmp .ge 5, .iload 1, .ifCond .eq 2, .aload 0, .getfield 788, .iload 4, .iaload, .goto 3], [3, 5, 6, 9, 12, 13, 16, 17, 20, 22, 23, 26]),
  ([.aload 0, .getfield 789, .iload 4, .iaload], [26, 27, 30, 32, 33]),
  ([.iload 2, .if_icmp .ne 4, .iload 3, .aload 0, .getfield 790, .iload 4, .iaload, .aload 0, .getfield 791, .iload 4, .iaload, .invokestatic 150, .ifCond .eq 4, .iload 4, .ireturn], [33, 34, 37, 38, 39, 42, 44, 45, 46, 49, 51, 52, 55, 58, 60, 61]),
  ([.iinc 4 1, .goto 1], [61, 64, 67]),
  ([.sipush (-9), .ireturn], [67, 69, 70])]
def zB_193 : List (List Instr × List Nat) := [
  ([.iload 1, .sipush 0, .sipush 1, .invokestatic 150, .ifCond .ne 1, .sipush (-2), .ireturn], [0, 1, 2, 3, 6, 9, 11, 12]),
  ([.iload 1, .ifCond .ne 2, .aload 0, .iload 2, .invokevirtual 152, .ifCond .ne 4, .goto 3], [12, 13, 16, 17, 18, 21, 24, 27]),
  ([.aload 0, .iload 2, .invokevirtual 153, .ifCond .ne 4], [27, 28, 29, 32, 35]),
  ([.sipush (-1), .ireturn], [35, 36, 37]),
  ([.iload 3, .invokestatic 151, .ifCond .eq 7, .aload 0, .iload 1, .sipush 1, .if_icmp .ne 5, .sipush 1, .goto 6], [37, 38, 41, 44, 45, 46, 47, 50, 51, 54]),
  ([.sipush 0], [54, 55]),
  ([.iload 2, .iload 3, .invokevirtual 192, .goto 8], [55, 56, 57, 60, 63]),
  ([.sipush (-2)], [63, 65]),
  ([.ireturn], [65, 66])]
def zB_194 : List (List Instr × List Nat) := [
  ([.aload 0, .iload 1, .invokevirtual 152, .ifCond .ne 1, .sipush (-1), .ireturn], [0, 1, 2, 5, 8, 9, 10]),
  ([.iload 2, .invokestatic 151, .ifCond .eq 2, .iload 3, .sipush 0, .sipush 65535, .invokestatic 150, .ifCond .ne 3], [10, 11, 14, 17, 18, 19, 22, 25, 28]),
  ([.sipush (-2), .ireturn], [28, 30, 31]),
  ([.sipush 0, .istore 4], [31, 32, 34]),
  ([.iload 4, .aload 0, .getfield 793, .if_icmp .ge 6, .aload 0, .getfield 794, .iload 4, .iaload, .iload 1, .if_icmp .ne 5, .aload 0, .getfield 795, .iload 4, .iaload, .iload 2, .if_icmp .ne 5, .sipush (-3), .ireturn], [34, 36, 37, 40, 43, 44, 47, 49, 50, 51, 54, 55, 58, 60, 61, 62, 65, 67, 68]),
  ([.iinc 4 1, .goto 4], [68, 71, 74]),
  ([.aload 0, .getfield 793, .sipush 40, .if_icmp .ne 7, .sipush (-4), .ireturn], [74, 75, 78, 80, 83, 85, 86]),
  ([.aload 0, .getfield 794, .aload 0, .getfield 793, .iload 1, .iastore, .aload 0, .getfield 795, .aload 0, .getfield 793, .iload 2, .iastore, .aload 0, .getfield 796, .aload 0, .getfield 793, .iload 3, .iastore, .aload 0, .dup, .getfield 793, .sipush 1, .iadd, .putfield 793, .aload 0, .getfield 793, .sipush 1, .isub, .ireturn], [86, 87, 90, 91, 94, 95, 96, 97, 100, 101, 104, 105, 106, 107, 110, 111, 114, 115, 116, 117, 118, 121, 122, 123, 126, 127, 130, 131, 132, 133])]
def zB_195 : List (List Instr × List Nat) := [
  ([.aload 0, .sipush (-9), .putfield 798, .sipush 0, .istore 3], [0, 1, 3, 6, 7, 8]),
  ([.iload 3, .aload 0, .getfield 793, .if_icmp .ge 6, .aload 0, .getfield 794, .iload 3, .iaload, .iload 1, .if_icmp .ne 2, .aload 0, .getfield 796, .iload 3, .iaload, .iload 2, .ishr, .sipush 1, .iand, .sipush 1, .if_icmp .ne 2, .sipush 1, .goto 3], [8, 9, 10, 13, 16, 17, 20, 21, 22, 23, 26, 27, 30, 31, 32, 33, 34, 35, 36, 37, 40, 41, 44]),
  ([.sipush 0], [44, 45]),
  ([.istore 4, .iload 4, .ifCond .eq 5, .aload 0, .getfield 798, .sipush (-9), .if_icmp .eq 4, .aload 0, .getfield 795, .iload 3, .iaload, .aload 0, .getfield 798, .if_icmp .ge 5], [45, 47, 49, 52, 53, 56, 58, 61, 62, 65, 66, 67, 68, 71, 74]),
  ([.aload 0, .aload 0, .getfield 795, .iload 3, .iaload, .putfield 798], [74, 75, 76, 79, 80, 81, 84]),
  ([.iinc 3 1, .goto 1], [84, 87, 90]),
  ([.aload 0, .getfield 798, .sipush (-9), .if_icmp .ne 7, .sipush 0, .ireturn], [90, 91, 94, 96, 99, 100, 101]),
  ([.aload 0, .sipush 0, .putfield 797, .sipush 0, .istore 3], [101, 102, 103, 106, 107, 108]),
  ([.iload 3, .aload 0, .getfield 793, .if_icmp .ge 10, .aload 0, .getfield 794, .iload 3, .iaload, .iload 1, .if_icmp .ne 9, .aload 0, .getfield 795, .iload 3, .iaload, .aload 0, .getfield 798, .if_icmp .ge 9, .aload 0, .getfield 795, .iload 3, .iaload, .sipush 1, .iadd, .aload 0, .getfield 797, .if_icmp .le 9, .aload 0, .aload 0, .getfield 795, .iload 3, .iaload, .sipush 1, .iadd, .putfield 797], [108, 109, 110, 113, 116, 117, 120, 121, 122, 123, 126, 127, 130, 131, 132, 133, 136, 139, 140, 143, 144, 145, 146, 147, 148, 151, 154, 155, 156, 159, 160, 161, 162, 163, 166]),
  ([.iinc 3 1, .goto 8], [166, 169, 172]),
  ([.sipush 1, .ireturn], [172, 173, 174])]
def zB_196 : List (List Instr × List Nat) := [
  ([.aload 0, .iload 1, .invokevirtual 152, .ifCond .eq 1, .iload 2, .sipush 0, .sipush 15, .invokestatic 150, .ifCond .ne 2], [0, 1, 2, 5, 8, 9, 10, 12, 15, 18]),
  ([.sipush (-1), .ireturn], [18, 19, 20]),
  ([.iload 3, .sipush 0, .sipush 1, .invokestatic 150, .ifCond .ne 3, .sipush (-2), .ireturn], [20, 21, 22, 23, 26, 29, 31, 32]),
  ([.aload 0, .iload 1, .iload 2, .invokevirtual 195, .ifCond .ne 4, .sipush (-9), .goto 6], [32, 33, 34, 35, 38, 41, 43, 46]),
  ([.iload 3, .ifCond .ne 5, .aload 0, .getfield 797, .goto 6], [46, 47, 50, 51, 54, 57]),
  ([.aload 0, .getfield 798], [57, 58, 61]),
  ([.ireturn], [61, 62])]
def zB_197 : List (List Instr × List Nat) := [
  ([.aload 0, .iload 1, .invokevirtual 152, .ifCond .eq 1, .iload 2, .sipush 0, .sipush 15, .invokestatic 150, .ifCond .ne 2], [0, 1, 2, 5, 8, 9, 10, 12, 15, 18]),
  ([.sipush (-1), .ireturn], [18, 19, 20]),
  ([.aload 0, .iload 1, .iload 2, .invokevirtual 195, .ifCond .ne 3, .sipush (-9), .ireturn], [20, 21, 22, 23, 26, 29, 31, 32]),
  ([.aload 0, .sipush 0, .iload 1, .aload 0, .getfield 797, .invokevirtual 192, .istore 3, .iload 3, .sipush (-9), .if_icmp .eq 4, .aload 0, .getfield 791, .iload 3, .iaload, .aload 0, .getfield 798, .if_icmp .lt 4, .iload 3, .goto 5], [32, 33, 34, 35, 36, 39, 42, 43, 44, 46, 49, 50, 53, 54, 55, 56, 59, 62, 63, 66]),
  ([.sipush (-9)], [66, 68]),
  ([.ireturn], [68, 69])]
def zB_198 : List (List Instr × List Nat) := [
  ([.aload 0, .iload 1, .invokevirtual 152, .ifCond .ne 1, .sipush (-1), .ireturn], [0, 1, 2, 5, 8, 9, 10]),
  ([.sipush 0, .istore 2, .sipush 0, .istore 3], [10, 11, 12, 13, 14]),
  ([.iload 3, .aload 0, .getfield 793, .if_icmp .ge 9, .sipush 0, .istore 4, .sipush 0, .istore 5], [14, 15, 16, 19, 22, 23, 25, 26, 28]),
  ([.iload 5, .aload 0, .getfield 793, .if_icmp .ge 6, .iload 4, .aload 0, .getfield 794, .iload 5, .iaload, .iload 1, .if_icmp .ne 4, .aload 0, .getfield 795, .iload 5, .iaload, .aload 0, .getfield 795, .iload 3, .iaload, .if_icmp .ge 4, .aload 0, .getfield 796, .iload 5, .iaload, .goto 5], [28, 30, 31, 34, 37, 39, 40, 43, 45, 46, 47, 50, 51, 54, 56, 57, 58, 61, 62, 63, 66, 67, 70, 72, 73, 76]),
  ([.sipush 0], [76, 77]),
  ([.ior, .istore 4, .iinc 5 1, .goto 3], [77, 78, 80, 83, 86]),
  ([.iload 2, .aload 0, .getfield 794, .iload 3, .iaload, .iload 1, .if_icmp .ne 7, .iload 4, .aload 0, .getfield 796, .iload 3, .iaload, .sipush (-1), .ixor, .iand, .ifCond .eq 7, .sipush 1, .goto 8], [86, 87, 88, 91, 92, 93, 94, 97, 99, 100, 103, 104, 105, 106, 107, 108, 111, 112, 115]),
  ([.sipush 0], [115, 116]),
  ([.iadd, .istore 2, .iinc 3 1, .goto 2], [116, 117, 118, 121, 124]),
  ([.iload 2, .ireturn], [124, 125, 126])]
def zB_199 : List (List Instr × List Nat) := [
  ([.sipush 0, .istore 1, .sipush 0, .istore 2], [0, 1, 2, 3, 4]),
  ([.iload 2, .sipush 10, .if_icmp .ge 2, .iload 1, .iload 0, .iload 2, .ishr, .sipush 1, .iand, .iadd, .istore 1, .iinc 2 1, .goto 1], [4, 5, 7, 10, 11, 12, 13, 14, 15, 16, 17, 18, 21, 24]),
  ([.iload 1, .ireturn], [24, 25, 26])]
def zB_200 : List (List Instr × List Nat) := [
  ([.sipush 0, .istore 3], [0, 1, 2]),
  ([.iload 3, .sipush 1, .aload 0, .getfield 774, .ishl, .if_icmp .ge 8, .aload 0, .getfield 802, .iload 3, .iload 3, .ifCond .ne 2, .sipush 0, .goto 3], [2, 3, 4, 5, 8, 9, 12, 13, 16, 17, 18, 21, 22, 25]),
  ([.sipush (-9)], [25, 27]),
  ([.iastore, .aload 0, .getfield 801, .iload 3, .sipush 0, .iastore, .sipush 0, .istore 4], [27, 28, 29, 32, 33, 34, 35, 36, 38]),
  ([.iload 4, .aload 0, .getfield 800, .if_icmp .ge 7, .aload 0, .getfield 801, .iload 3, .dup2, .iaload, .aload 0, .getfield 799, .iload 4, .iaload, .iload 3, .sipush (-1), .ixor, .iand, .ifCond .ne 5, .sipush 1, .goto 6], [38, 40, 41, 44, 47, 48, 51, 52, 53, 54, 55, 58, 60, 61, 62, 63, 64, 65, 68, 69, 72]),
  ([.sipush 0], [72, 73]),
  ([.iadd, .iastore, .iinc 4 1, .goto 4], [73, 74, 75, 78, 81]),
  ([.iinc 3 1, .goto 1], [81, 84, 87]),
  ([.sipush 0, .istore 3], [87, 88, 89]),
  ([.aload 0, .getfield 802, .iload 1, .iaload, .aload 0, .getfield 800, .if_icmp .ge 26, .sipush 0, .istore 4], [89, 90, 93, 94, 95, 96, 99, 102, 103, 105]),
  ([.iload 4, .sipush 1, .aload 0, .getfield 774, .ishl, .if_icmp .ge 11, .aload 0, .getfield 803, .iload 4, .sipush (-9), .iastore, .iinc 4 1, .goto 10], [105, 107, 108, 109, 112, 113, 116, 117, 120, 122, 124, 125, 128, 131]),
  ([.sipush 0, .istore 4], [131, 132, 134]),
  ([.iload 4, .sipush 1, .aload 0, .getfield 774, .ishl, .if_icmp .ge 23, .aload 0, .getfield 802, .iload 4, .iaload, .sipush (-9), .if_icmp .ne 13, .goto 22], [134, 136, 137, 138, 141, 142, 145, 146, 149, 151, 152, 154, 157, 160]),
  ([.iload 1, .iload 4, .sipush (-1), .ixor, .iand, .istore 5, .iload 5, .istore 6, .sipush 1, .istore 7], [160, 161, 163, 164, 165, 166, 168, 170, 172, 173, 175]),
  ([.iload 7, .ifCond .eq 22, .iload 2, .iload 6, .invokestatic 199, .isub, .istore 8, .iload 8, .ifCond .lt 19, .aload 0, .getfield 801, .iload 4, .iaload, .aload 0, .getfield 802, .iload 4, .iaload, .isub, .istore 9, .aload 0, .getfield 802, .iload 4, .iaload, .iload 9, .iload 8, .if_icmp .ge 15, .iload 9, .goto 16], [175, 177, 180, 181, 183, 186, 187, 189, 191, 194, 195, 198, 200, 201, 202, 205, 207, 208, 209, 211, 212, 215, 217, 218, 220, 222, 225, 227, 230]),
  ([.iload 8], [230, 232]),
  ([.iadd, .istore 10, .aload 0, .getfield 803, .iload 4, .iload 6, .ior, .iload 10, .aload 0, .getfield 803, .iload 4, .iload 6, .ior, .iaload, .if_icmp .le 17, .iload 10, .goto 18], [232, 233, 235, 236, 239, 241, 243, 244, 246, 247, 250, 252, 254, 255, 256, 259, 261, 264]),
  ([.aload 0, .getfield 803, .iload 4, .iload 6, .ior, .iaload], [264, 265, 268, 270, 272, 273, 274]),
  ([.iastore], [274, 275]),
  ([.iload 6, .ifCond .le 20, .sipush 1, .goto 21], [275, 277, 280, 281, 284]),
  ([.sipush 0], [284, 285]),
  ([.istore 7, .iload 6, .sipush 1, .isub, .iload 5, .iand, .istore 6, .goto 14], [285, 287, 289, 290, 291, 293, 294, 296, 299]),
  ([.iinc 4 1, .goto 12], [299, 302, 305]),
  ([.sipush 0, .istore 4], [305, 306, 308]),
  ([.iload 4, .sipush 1, .aload 0, .getfield 774, .ishl, .if_icmp .ge 25, .aload 0, .getfield 802, .iload 4, .aload 0, .getfield 803, .iload 4, .iaload, .iastore, .iinc 4 1, .goto 24], [308, 310, 311, 312, 315, 316, 319, 320, 323, 325, 326, 329, 331, 332, 333, 336, 339]),
  ([.iinc 3 1, .goto 9], [339, 342, 345]),
  ([.iload 3, .ireturn], [345, 346, 347])]
def zB_201 : List (List Instr × List Nat) := [
  ([.aload 0, .sipush 0, .putfield 768, .iload 3, .invokestatic 174, .ifCond .ne 1, .sipush (-1), .ireturn], [0, 1, 2, 5, 6, 9, 12, 13, 14]),
  ([.iload 4, .invokestatic 175, .ifCond .eq 2, .iload 1, .invokestatic 151, .ifCond .eq 2, .iload 2, .sipush 1, .sipush 9, .invokestatic 150, .ifCond .ne 3], [14, 16, 19, 22, 23, 26, 29, 30, 31, 33, 36, 39]),
  ([.sipush (-2), .ireturn], [39, 41, 42]),
  ([.aload 0, .iload 3, .iload 4, .iload 5, .aload 0, .getfield 774, .invokevirtual 173, .istore 6, .iload 6, .ifCond .eq 4, .iload 6, .ireturn], [42, 43, 44, 46, 48, 49, 52, 55, 57, 59, 62, 64, 65]),
  ([.aload 0, .iload 3, .iload 5, .invokevirtual 176, .ifCond .ne 5, .sipush (-2), .ireturn], [65, 66, 67, 69, 72, 75, 77, 78]),
  ([.sipush 0, .istore 7, .aload 0, .sipush 0, .putfield 800, .sipush 0, .istore 8], [78, 79, 81, 82, 83, 86, 87, 89]),
  ([.iload 8, .aload 0, .getfield 774, .if_icmp .ge 16, .aload 0, .sipush 1, .iload 8, .iload 1, .invokevirtual 192, .istore 9, .iload 9, .sipush (-9), .if_icmp .ne 7, .sipush (-1), .goto 8], [89, 91, 92, 95, 98, 99, 100, 102, 103, 106, 108, 110, 112, 115, 116, 119]),
  ([.aload 0, .getfield 789, .iload 9, .iaload], [119, 120, 123, 125, 126]),
  ([.istore 10, .iload 7, .iload 10, .ifCond .lt 9, .iload 10, .aload 0, .getfield 786, .iload 8, .iaload, .if_icmp .eq 9, .sipush 1, .iload 8, .ishl, .goto 10], [126, 128, 130, 132, 135, 137, 138, 141, 143, 144, 147, 148, 150, 151, 154]),
  ([.sipush 0], [154, 155]),
  ([.ior, .istore 7, .aload 0, .getfield 786, .iload 8, .iaload, .ifCond .lt 15, .aload 0, .getfield 786, .iload 8, .iaload, .iload 10, .if_icmp .eq 15, .aload 0, .sipush 0, .aload 0, .getfield 786, .iload 8, .iaload, .iload 1, .invokevirtual 192, .istore 11, .aload 0, .getfield 799, .aload 0, .getfield 800, .iload 10, .ifCond .lt 11, .sipush 1, .iload 8, .ishl, .goto 12], [155, 156, 158, 159, 162, 164, 165, 168, 169, 172, 174, 175, 177, 180, 181, 182, 183, 186, 188, 189, 190, 193, 195, 196, 199, 200, 203, 205, 208, 209, 211, 212, 215]),
  ([.sipush 0], [215, 216]),
  ([.iload 11, .sipush (-9), .if_icmp .ne 13, .sipush 0, .goto 14], [216, 218, 220, 223, 224, 227]),
  ([.sipush 1, .aload 0, .getfield 788, .iload 11, .iaload, .ishl], [227, 228, 229, 232, 234, 235, 236]),
  ([.ior, .iastore, .aload 0, .dup, .getfield 800, .sipush 1, .iadd, .putfield 800], [236, 237, 238, 239, 240, 243, 244, 245, 248]),
  ([.iinc 8 1, .goto 6], [248, 251, 254]),
  ([.iload 7, .ifCond .ne 17, .aload 0, .getfield 800, .ifCond .ne 17, .sipush 0, .goto 18], [254, 256, 259, 260, 263, 266, 267, 270]),
  ([.aload 0, .iload 7, .iload 2, .invokevirtual 200], [270, 271, 273, 274, 277]),
  ([.ireturn], [277, 278])]
def zB_202 : List (List Instr × List Nat) := [
  ([.iload 0, .sipush 1500, .sipush 2100, .invokestatic 150, .ireturn], [0, 1, 4, 7, 10, 11])]
def zB_203 : List (List Instr × List Nat) := [
  ([.aload 0, .iload 1, .invokevirtual 152, .ifCond .ne 1, .sipush (-1), .ireturn], [0, 1, 2, 5, 8, 9, 10]),
  ([.iload 2, .sipush 0, .sipush 99, .invokestatic 150, .ifCond .eq 2, .iload 3, .invokestatic 202, .ifCond .eq 2, .iload 4, .invokestatic 202, .ifCond .eq 2, .iload 3, .iload 4, .if_icmp .le 3], [10, 11, 12, 14, 17, 20, 21, 24, 27, 29, 32, 35, 36, 38, 41]),
  ([.sipush (-2), .ireturn], [41, 43, 44]),
  ([.aload 0, .getfield 804, .sipush 40, .if_icmp .ne 4, .sipush (-4), .ireturn], [44, 45, 48, 50, 53, 55, 56]),
  ([.aload 0, .getfield 805, .aload 0, .getfield 804, .iload 1, .iastore, .aload 0, .getfield 806, .aload 0, .getfield 804, .iload 2, .iastore, .aload 0, .getfield 807, .aload 0, .getfield 804, .iload 3, .iastore, .aload 0, .getfield 808, .aload 0, .getfield 804, .iload 4, .iastore, .aload 0, .dup, .getfield 804, .sipush 1, .iadd, .putfield 804, .aload 0, .getfield 804, .sipush 1, .isub, .ireturn], [56, 57, 60, 61, 64, 65, 66, 67, 70, 71, 74, 75, 76, 77, 80, 81, 84, 85, 86, 87, 90, 91, 94, 96, 97, 98, 99, 102, 103, 104, 107, 108, 111, 112, 113, 114])]
def zB_204 : List (List Instr × List Nat) := [
  ([.aload 0, .getfield 805, .iload 1, .iaload, .iload 2, .if_icmp .ne 1, .iload 3, .aload 0, .getfield 807, .iload 1, .iaload, .aload 0, .getfield 808, .iload 1, .iaload, .invokestatic 150, .ifCond .eq 1, .sipush 1, .goto 2], [0, 1, 4, 5, 6, 7, 10, 11, 12, 15, 16, 17, 18, 21, 22, 23, 26, 29, 30, 33]),
  ([.sipush 0], [33, 34]),
  ([.ireturn], [34, 35])]
def zB_205 : List (List Instr × List Nat) := [
  ([.sipush 0, .istore 3], [0, 1, 2]),
  ([.iload 3, .aload 0, .getfield 804, .if_icmp .ge 3, .aload 0, .iload 3, .iload 1, .iload 2, .invokevirtual 204, .ifCond .eq 2, .sipush 1, .ireturn], [2, 3, 4, 7, 10, 11, 12, 13, 14, 17, 20, 21, 22]),
  ([.iinc 3 1, .goto 1], [22, 25, 28]),
  ([.sipush 0, .ireturn], [28, 29, 30])]
def zB_206 : List (List Instr × List Nat) := [
  ([.aload 0, .sipush 2101, .putfield 809, .aload 0, .sipush 0, .putfield 810, .sipush 0, .istore 2], [0, 1, 4, 7, 8, 9, 12, 13, 14]),
  ([.iload 2, .aload 0, .getfield 804, .if_icmp .ge 7, .aload 0, .getfield 805, .iload 2, .iaload, .iload 1, .if_icmp .ne 6, .aload 0, .aload 0, .getfield 807, .iload 2, .iaload, .aload 0, .getfield 809, .if_icmp .ge 2, .aload 0, .getfield 807, .iload 2, .iaload, .goto 3], [14, 15, 16, 19, 22, 23, 26, 27, 28, 29, 32, 33, 34, 37, 38, 39, 40, 43, 46, 47, 50, 51, 52, 55]),
  ([.aload 0, .getfield 809], [55, 56, 59]),
  ([.putfield 809, .aload 0, .aload 0, .getfield 808, .iload 2, .iaload, .aload 0, .getfield 810, .if_icmp .le 4, .aload 0, .getfield 808, .iload 2, .iaload, .goto 5], [59, 62, 63, 64, 67, 68, 69, 70, 73, 76, 77, 80, 81, 82, 85]),
  ([.aload 0, .getfield 810], [85, 86, 89]),
  ([.putfield 810], [89, 92]),
  ([.iinc 2 1, .goto 1], [92, 95, 98]),
  ([.return_], [98, 99])]
def zB_207 : List (List Instr × List Nat) := [
  ([.iload 2, .aload 0, .getfield 809, .if_icmp .le 1, .iload 2, .aload 0, .getfield 810, .if_icmp .ge 1, .aload 0, .iload 1, .iload 2, .invokevirtual 205, .ifCond .ne 1, .sipush 1, .goto 2], [0, 1, 2, 5, 8, 9, 10, 13, 16, 17, 18, 19, 22, 25, 26, 29]),
  ([.sipush 0], [29, 30]),
  ([.ireturn], [30, 31])]
def zB_208 : List (List Instr × List Nat) := [
  ([.aload 0, .iload 1, .invokevirtual 206, .sipush 0, .istore 3, .aload 0, .getfield 809, .istore 4], [0, 1, 2, 5, 6, 7, 8, 11, 13]),
  ([.iload 4, .aload 0, .getfield 810, .if_icmp .gt 7, .aload 0, .iload 1, .iload 4, .invokevirtual 207, .ifCond .ne 2, .goto 6], [13, 15, 16, 19, 22, 23, 24, 26, 29, 32, 35]),
  ([.aload 0, .iload 1, .iload 4, .sipush 1, .isub, .invokevirtual 207, .ifCond .ne 3, .iinc 3 1], [35, 36, 37, 39, 40, 41, 44, 47, 50]),
  ([.iload 3, .sipush 1, .isub, .iload 2, .if_icmp .ne 6, .aload 0, .aload 0, .iload 1, .iload 4, .sipush 1, .isub, .invokevirtual 207, .ifCond .eq 4, .aload 0, .getfield 811, .goto 5], [50, 51, 52, 53, 54, 57, 58, 59, 60, 62, 63, 64, 67, 70, 71, 74, 77]),
  ([.iload 4], [77, 79]),
  ([.putfield 811, .aload 0, .iload 4, .putfield 812], [79, 82, 83, 85, 88]),
  ([.iinc 4 1, .goto 1], [88, 91, 94]),
  ([.iload 3, .ireturn], [94, 95, 96])]
def zB_209 : List (List Instr × List Nat) := [
  ([.sipush 0, .istore 2, .sipush 0, .istore 3], [0, 1, 2, 3, 4]),
  ([.iload 3, .aload 0, .getfield 804, .if_icmp .ge 8, .sipush 0, .istore 4], [4, 5, 6, 9, 12, 13, 15]),
  ([.iload 4, .iload 3, .if_icmp .ge 7, .aload 0, .getfield 805, .iload 3, .iaload, .iload 1, .if_icmp .ne 3, .aload 0, .getfield 805, .iload 4, .iaload, .iload 1, .if_icmp .ne 3, .aload 0, .getfield 806, .iload 3, .iaload, .aload 0, .getfield 806, .iload 4, .iaload, .if_icmp .eq 3, .sipush 1, .goto 4], [15, 17, 18, 21, 22, 25, 26, 27, 28, 31, 32, 35, 37, 38, 39, 42, 43, 46, 47, 48, 49, 52, 54, 55, 58, 59, 62]),
  ([.sipush 0], [62, 63]),
  ([.istore 5, .iload 2, .iload 5, .ifCond .eq 5, .aload 0, .getfield 807, .iload 3, .iaload, .aload 0, .getfield 808, .iload 4, .iaload, .if_icmp .gt 5, .aload 0, .getfield 807, .iload 4, .iaload, .aload 0, .getfield 808, .iload 3, .iaload, .if_icmp .gt 5, .sipush 1, .goto 6], [63, 65, 66, 68, 71, 72, 75, 76, 77, 78, 81, 83, 84, 87, 88, 91, 93, 94, 95, 98, 99, 100, 103, 104, 107]),
  ([.sipush 0], [107, 108]),
  ([.iadd, .istore 2, .iinc 4 1, .goto 2], [108, 109, 110, 113, 116]),
  ([.iinc 3 1, .goto 1], [116, 119, 122]),
  ([.iload 2, .ireturn], [122, 123, 124])]
def zB_210 : List (List Instr × List Nat) := [
  ([.aload 0, .iload 1, .invokevirtual 152, .ifCond .ne 1, .sipush (-1), .ireturn], [0, 1, 2, 5, 8, 9, 10]),
  ([.iload 2, .sipush 0, .sipush 1, .invokestatic 150, .ifCond .ne 2, .sipush (-2), .ireturn], [10, 11, 12, 13, 16, 19, 21, 22]),
  ([.iload 2, .ifCond .ne 3, .aload 0, .iload 1, .sipush (-1), .invokevirtual 208, .goto 4], [22, 23, 26, 27, 28, 29, 32, 35]),
  ([.aload 0, .iload 1, .invokevirtual 209], [35, 36, 37, 40]),
  ([.ireturn], [40, 41])]
def zB_211 : List (List Instr × List Nat) := [
  ([.aload 0, .iload 1, .invokevirtual 152, .ifCond .eq 1, .iload 2, .ifCond .lt 1, .iload 2, .aload 0, .iload 1, .iload 2, .invokevirtual 208, .if_icmp .lt 2], [0, 1, 2, 5, 8, 9, 12, 13, 14, 15, 16, 19, 22]),
  ([.sipush (-1), .ireturn], [22, 23, 24]),
  ([.iload 3, .ifCond .ne 3, .aload 0, .getfield 811, .goto 5], [24, 25, 28, 29, 32, 35]),
  ([.iload 3, .sipush 1, .if_icmp .ne 4, .aload 0, .getfield 812, .goto 5], [35, 36, 37, 40, 41, 44, 47]),
  ([.sipush (-2)], [47, 49]),
  ([.ireturn], [49, 50])]
def zB_212 : List (List Instr × List Nat) := [
  ([.sipush (-9), .istore 4, .aload 0, .getfield 804, .sipush 1, .isub, .istore 5], [0, 2, 4, 5, 8, 9, 10, 12]),
  ([.iload 5, .ifCond .lt 4, .aload 0, .iload 5, .iload 1, .iload 3, .invokevirtual 204, .ifCond .eq 2, .aload 0, .getfield 806, .iload 5, .iaload, .iload 2, .if_icmp .ne 2, .iload 5, .goto 3], [12, 14, 17, 18, 20, 21, 22, 25, 28, 29, 32, 34, 35, 36, 39, 41, 44]),
  ([.iload 4], [44, 46]),
  ([.istore 4, .iinc 5 (-1), .goto 1], [46, 48, 51, 54]),
  ([.iload 4, .sipush (-9), .if_icmp .eq 5, .aload 0, .iload 1, .aload 0, .getfield 808, .iload 4, .iaload, .sipush 1, .iadd, .invokevirtual 205, .ifCond .eq 6], [54, 56, 58, 61, 62, 63, 64, 67, 69, 70, 71, 72, 75, 78]),
  ([.sipush 0, .ireturn], [78, 79, 80]),
  ([.sipush (-9), .istore 5, .sipush 0, .istore 6], [80, 82, 84, 85, 87]),
  ([.iload 6, .aload 0, .getfield 804, .if_icmp .ge 10, .aload 0, .getfield 805, .iload 6, .iaload, .iload 1, .if_icmp .ne 9, .aload 0, .getfield 807, .iload 6, .iaload, .iload 3, .if_icmp .le 9, .iload 5, .sipush (-9), .if_icmp .eq 8, .aload 0, .getfield 807, .iload 6, .iaload, .aload 0, .getfield 807, .iload 5, .iaload, .if_icmp .ge 9], [87, 89, 90, 93, 96, 97, 100, 102, 103, 104, 107, 108, 111, 113, 114, 115, 118, 120, 122, 125, 126, 129, 131, 132, 133, 136, 138, 139, 142]),
  ([.iload 6, .istore 5], [142, 144, 146]),
  ([.iinc 6 1, .goto 7], [146, 149, 152]),
  ([.iload 5, .sipush (-9), .if_icmp .eq 11, .aload 0, .getfield 806, .iload 5, .iaload, .iload 2, .if_icmp .eq 11, .sipush 1, .goto 12], [152, 154, 156, 159, 160, 163, 165, 166, 167, 170, 171, 174]),
  ([.sipush 0], [174, 175]),
  ([.ireturn], [175, 176])]
def zB_213 : List (List Instr × List Nat) := [
  ([.aload 0, .iload 1, .invokevirtual 206, .sipush 0, .istore 4, .sipush 0, .istore 5, .sipush 0, .istore 6], [0, 1, 2, 5, 6, 8, 9, 11, 12, 14]),
  ([.iload 6, .aload 0, .getfield 804, .if_icmp .ge 7, .aload 0, .iload 6, .iload 1, .iload 3, .invokevirtual 204, .ifCond .eq 6, .iload 4, .aload 0, .getfield 806, .iload 6, .iaload, .iload 2, .if_icmp .ne 2, .sipush 1, .goto 3], [14, 16, 17, 20, 23, 24, 26, 27, 28, 31, 34, 36, 37, 40, 42, 43, 44, 47, 48, 51]),
  ([.sipush 0], [51, 52]),
  ([.ior, .istore 4, .iload 5, .aload 0, .getfield 806, .iload 6, .iaload, .iload 2, .if_icmp .eq 4, .sipush 1, .goto 5], [52, 53, 55, 57, 58, 61, 63, 64, 65, 68, 69, 72]),
  ([.sipush 0], [72, 73]),
  ([.ior, .istore 5], [73, 74, 76]),
  ([.iinc 6 1, .goto 1], [76, 79, 82]),
  ([.aload 0, .iload 1, .iload 3, .invokevirtual 207, .ifCond .ne 8, .iload 4, .ifCond .eq 9, .iload 5, .ifCond .eq 9], [82, 83, 84, 85, 88, 91, 93, 96, 98, 101]),
  ([.sipush 1, .goto 10], [101, 102, 105]),
  ([.sipush 0], [105, 106]),
  ([.ireturn], [106, 107])]
def zB_214 : List (List Instr × List Nat) := [
  ([.aload 0, .iload 1, .invokevirtual 152, .ifCond .ne 1, .sipush (-1), .ireturn], [0, 1, 2, 5, 8, 9, 10]),
  ([.iload 2, .sipush 0, .sipush 99, .invokestatic 150, .ifCond .eq 2, .iload 3, .invokestatic 202, .ifCond .ne 3], [10, 11, 12, 14, 17, 20, 21, 24, 27]),
  ([.sipush (-2), .ireturn], [27, 29, 30]),
  ([.aload 0, .iload 1, .iload 2, .iload 3, .invokevirtual 212, .ifCond .eq 4, .sipush 2, .goto 6], [30, 31, 32, 33, 34, 37, 40, 41, 44]),
  ([.aload 0, .iload 1, .iload 2, .iload 3, .invokevirtual 213, .ifCond .eq 5, .sipush 1, .goto 6], [44, 45, 46, 47, 48, 51, 54, 55, 58]),
  ([.sipush 0], [58, 59]),
  ([.ireturn], [59, 60])]
def zB_215 : List (List Instr × List Nat) := [
  ([.aload 0, .iload 1, .invokevirtual 152, .ifCond .ne 1, .sipush (-1), .ireturn], [0, 1, 2, 5, 8, 9, 10]),
  ([.iload 2, .invokestatic 151, .ifCond .eq 2, .iload 3, .sipush (-1), .sipush 1, .invokestatic 150, .ifCond .ne 3], [10, 11, 14, 17, 18, 19, 20, 23, 26]),
  ([.sipush (-2), .ireturn], [26, 28, 29]),
  ([.sipush 0, .istore 4], [29, 30, 32]),
  ([.iload 4, .aload 0, .getfield 813, .if_icmp .ge 6, .aload 0, .getfield 814, .iload 4, .iaload, .iload 1, .if_icmp .ne 5, .aload 0, .getfield 815, .iload 4, .iaload, .iload 2, .if_icmp .ne 5, .sipush (-3), .ireturn], [32, 34, 35, 38, 41, 42, 45, 47, 48, 49, 52, 53, 56, 58, 59, 60, 63, 65, 66]),
  ([.iinc 4 1, .goto 4], [66, 69, 72]),
  ([.aload 0, .getfield 813, .sipush 40, .if_icmp .ne 7, .sipush (-4), .ireturn], [72, 73, 76, 78, 81, 83, 84]),
  ([.aload 0, .getfield 814, .aload 0, .getfield 813, .iload 1, .iastore, .aload 0, .getfield 815, .aload 0, .getfield 813, .iload 2, .iastore, .aload 0, .getfield 816, .aload 0, .getfield 813, .iload 3, .iastore, .aload 0, .dup, .getfield 813, .sipush 1, .iadd, .putfield 813, .aload 0, .getfield 813, .sipush 1, .isub, .ireturn], [84, 85, 88, 89, 92, 93, 94, 95, 98, 99, 102, 103, 104, 105, 108, 109, 112, 113, 114, 115, 116, 119, 120, 121, 124, 125, 128, 129, 130, 131])]
def zB_216 : List (List Instr × List Nat) := [
  ([.iload 1, .ifCond .lt 1, .iload 1, .aload 0, .getfield 813, .if_icmp .lt 2], [0, 1, 4, 5, 6, 9, 12]),
  ([.sipush (-1), .ireturn], [12, 13, 14]),
  ([.iload 2, .sipush (-1), .sipush 1, .invokestatic 150, .ifCond .ne 3, .sipush (-2), .ireturn], [14, 15, 16, 17, 20, 23, 25, 26]),
  ([.aload 0, .getfield 816, .iload 1, .iaload, .ifCond .ge 4, .sipush (-9), .goto 5], [26, 27, 30, 31, 32, 35, 37, 40]),
  ([.aload 0, .getfield 816, .iload 1, .iaload], [40, 41, 44, 45, 46]),
  ([.istore 3, .aload 0, .getfield 816, .iload 1, .iload 2, .iastore, .iload 3, .ireturn], [46, 47, 48, 51, 52, 53, 54, 55, 56])]
def zB_217 : List (List Instr × List Nat) := [
  ([.iload 1, .aload 0, .getfield 819, .sipush 1, .isub, .iload 2, .isub, .ishr, .sipush 1, .iand, .ireturn], [0, 1, 2, 5, 6, 7, 8, 9, 10, 11, 12, 13])]
def zB_218 : List (List Instr × List Nat) := [
  ([.sipush 0, .istore 2], [0, 1, 2]),
  ([.iload 2, .aload 0, .getfield 819, .if_icmp .ge 3, .aload 0, .getfield 816, .aload 0, .getfield 818, .iload 2, .iaload, .iaload, .ifCond .lt 2, .aload 0, .getfield 816, .aload 0, .getfield 818, .iload 2, .iaload, .iaload, .aload 0, .iload 1, .iload 2, .invokevirtual 217, .if_icmp .eq 2, .sipush 0, .ireturn], [2, 3, 4, 7, 10, 11, 14, 15, 18, 19, 20, 21, 24, 25, 28, 29, 32, 33, 34, 35, 36, 37, 38, 41, 44, 45, 46]),
  ([.iinc 2 1, .goto 1], [46, 49, 52]),
  ([.sipush 1, .ireturn], [52, 53, 54])]
def zB_219 : List (List Instr × List Nat) := [
  ([.sipush 0, .istore 2, .sipush 0, .istore 3, .sipush 0, .istore 4], [0, 1, 2, 3, 4, 5, 7]),
  ([.iload 4, .aload 0, .getfield 819, .if_icmp .ge 6, .aload 0, .getfield 773, .aload 0, .getfield 814, .aload 0, .getfield 818, .iload 4, .iaload, .iaload, .iaload, .istore 5, .iload 2, .aload 0, .iload 1, .iload 4, .invokevirtual 217, .ifCond .ne 2, .iload 5, .goto 3], [7, 9, 10, 13, 16, 17, 20, 21, 24, 25, 28, 30, 31, 32, 33, 35, 36, 37, 38, 40, 43, 46, 48, 51]),
  ([.sipush 0], [51, 52]),
  ([.iadd, .istore 2, .iload 3, .aload 0, .iload 1, .iload 4, .invokevirtual 217, .sipush 1, .if_icmp .ne 4, .iload 5, .goto 5], [52, 53, 54, 55, 56, 57, 59, 62, 63, 66, 68, 71]),
  ([.sipush 0], [71, 72]),
  ([.iadd, .istore 3, .iinc 4 1, .goto 1], [72, 73, 74, 77, 80]),
  ([.iload 2, .iload 3, .if_icmp .le 7, .iload 2, .goto 8], [80, 81, 82, 85, 86, 89]),
  ([.iload 3], [89, 90]),
  ([.ireturn], [90, 91])]
def zB_220 : List (List Instr × List Nat) := [
  ([.aload 0, .sipush 0, .putfield 819, .sipush 0, .istore 2], [0, 1, 2, 5, 6, 7]),
  ([.iload 2, .aload 0, .getfield 813, .if_icmp .ge 3, .aload 0, .getfield 815, .iload 2, .iaload, .iload 1, .if_icmp .ne 2, .aload 0, .getfield 818, .aload 0, .getfield 819, .iload 2, .iastore, .aload 0, .dup, .getfield 819, .sipush 1, .iadd, .putfield 819], [7, 8, 9, 12, 15, 16, 19, 20, 21, 22, 25, 26, 29, 30, 33, 34, 35, 36, 37, 40, 41, 42, 45]),
  ([.iinc 2 1, .goto 1], [45, 48, 51]),
  ([.aload 0, .sipush (-9), .putfield 820, .aload 0, .sipush 0, .putfield 821, .sipush 0, .istore 2], [51, 52, 54, 57, 58, 59, 62, 63, 64]),
  ([.iload 2, .sipush 1, .aload 0, .getfield 819, .ishl, .if_icmp .ge 7, .aload 0, .iload 2, .invokevirtual 218, .ifCond .eq 6, .aload 0, .iload 2, .invokevirtual 219, .istore 3, .aload 0, .getfield 820, .sipush (-9), .if_icmp .eq 5, .iload 3, .aload 0, .getfield 821, .if_icmp .ge 6], [64, 65, 66, 67, 70, 71, 74, 75, 76, 79, 82, 83, 84, 87, 88, 89, 92, 94, 97, 98, 99, 102, 105]),
  ([.aload 0, .iload 2, .putfield 820, .aload 0, .iload 3, .putfield 821], [105, 106, 107, 110, 111, 112, 115]),
  ([.iinc 2 1, .goto 4], [115, 118, 121]),
  ([.return_], [121, 122])]
def zB_221 : List (List Instr × List Nat) := [
  ([.iload 1, .invokestatic 151, .ifCond .ne 1, .sipush (-2), .ireturn], [0, 1, 4, 7, 9, 10]),
  ([.aload 0, .iload 1, .invokevirtual 220, .aload 0, .getfield 821, .ireturn], [10, 11, 12, 15, 16, 19, 20])]
def zB_222 : List (List Instr × List Nat) := [
  ([.iload 1, .ifCond .lt 1, .iload 1, .aload 0, .getfield 813, .if_icmp .lt 2], [0, 1, 4, 5, 6, 9, 12]),
  ([.sipush (-1), .ireturn], [12, 13, 14]),
  ([.aload 0, .aload 0, .getfield 815, .iload 1, .iaload, .invokevirtual 220, .sipush 0, .istore 2], [14, 15, 16, 19, 20, 21, 24, 25, 26]),
  ([.aload 0, .getfield 818, .iload 2, .iaload, .iload 1, .if_icmp .eq 4, .iinc 2 1, .goto 3], [26, 27, 30, 31, 32, 33, 36, 39, 42]),
  ([.aload 0, .aload 0, .getfield 820, .iload 2, .invokevirtual 217, .ireturn], [42, 43, 44, 47, 48, 51, 52])]
def zB_223 : List (List Instr × List Nat) := [
  ([.iload 1, .sipush 1, .sipush 100000000, .invokestatic 150, .ifCond .ne 1, .sipush (-2), .ireturn], [0, 1, 2, 5, 8, 11, 13, 14]),
  ([.aload 0, .getfield 817, .istore 2, .aload 0, .iload 1, .putfield 817, .iload 2, .ireturn], [14, 15, 18, 19, 20, 21, 24, 25, 26])]
def zB_224 : List (List Instr × List Nat) := [
  ([.sipush 0, .istore 1, .sipush 0, .istore 2], [0, 1, 2, 3, 4]),
  ([.iload 2, .aload 0, .getfield 813, .if_icmp .ge 9, .sipush 1, .istore 3, .sipush 0, .istore 4], [4, 5, 6, 9, 12, 13, 14, 15, 17]),
  ([.iload 4, .iload 2, .if_icmp .ge 5, .iload 3, .aload 0, .getfield 815, .iload 4, .iaload, .aload 0, .getfield 815, .iload 2, .iaload, .if_icmp .eq 3, .sipush 1, .goto 4], [17, 19, 20, 23, 24, 25, 28, 30, 31, 32, 35, 36, 37, 40, 41, 44]),
  ([.sipush 0], [44, 45]),
  ([.iand, .istore 3, .iinc 4 1, .goto 2], [45, 46, 47, 50, 53]),
  ([.iload 3, .ifCond .eq 8, .aload 0, .aload 0, .getfield 815, .iload 2, .iaload, .invokevirtual 220, .iload 1, .aload 0, .getfield 821, .aload 0, .getfield 817, .if_icmp .le 6, .sipush 1, .goto 7], [53, 54, 57, 58, 59, 62, 63, 64, 67, 68, 69, 72, 73, 76, 79, 80, 83]),
  ([.sipush 0], [83, 84]),
  ([.iadd, .istore 1], [84, 85, 86]),
  ([.iinc 2 1, .goto 1], [86, 89, 92]),
  ([.iload 1, .ireturn], [92, 93, 94])]
def zB_225 : List (List Instr × List Nat) := [
  ([.aload 0, .sipush 0, .putfield 768, .iload 1, .invokestatic 174, .ifCond .ne 1, .sipush (-1), .ireturn], [0, 1, 2, 5, 6, 9, 12, 13, 14]),
  ([.iload 2, .invokestatic 175, .ifCond .eq 2, .iload 5, .sipush 0, .sipush 100, .invokestatic 150, .ifCond .eq 2, .iload 6, .iload 5, .sipush 100, .invokestatic 150, .ifCond .eq 2, .iload 7, .sipush 0, .sipush 1, .invokestatic 150, .ifCond .ne 3], [14, 15, 18, 21, 23, 24, 26, 29, 32, 34, 36, 38, 41, 44, 46, 47, 48, 51, 54]),
  ([.sipush (-2), .ireturn], [54, 56, 57]),
  ([.aload 0, .iload 1, .iload 2, .iload 3, .iload 4, .invokevirtual 173, .istore 8, .iload 8, .ifCond .eq 4, .iload 8, .ireturn], [57, 58, 59, 60, 61, 63, 66, 68, 70, 73, 75, 76]),
  ([.sipush 60, .iload 1, .imul, .iload 3, .iadd, .istore 9, .sipush 0, .istore 10], [76, 78, 79, 80, 81, 82, 84, 85, 87]),
  ([.iload 10, .iload 4, .if_icmp .ge 7, .aload 0, .getfield 785, .iload 9, .iload 10, .iadd, .iaload, .sipush (-1), .sipush 100, .invokestatic 150, .ifCond .ne 6, .sipush (-2), .ireturn], [87, 89, 91, 94, 95, 98, 100, 102, 103, 104, 105, 107, 110, 113, 115, 116]),
  ([.iinc 10 1, .goto 5], [116, 119, 122]),
  ([.sipush 0, .istore 10, .sipush 0, .istore 11, .sipush 0, .istore 12, .sipush 0, .istore 13], [122, 123, 125, 126, 128, 129, 131, 132, 134]),
  ([.iload 13, .iload 4, .if_icmp .ge 16, .aload 0, .getfield 785, .iload 9, .iload 13, .iadd, .iaload, .istore 14, .iload 14, .iload 5, .iload 6, .invokestatic 150, .ifCond .eq 9, .sipush 0, .istore 11, .sipush 0, .istore 12, .goto 15], [134, 136, 138, 141, 142, 145, 147, 149, 150, 151, 153, 155, 157, 159, 162, 165, 166, 168, 169, 171, 174]),
  ([.iinc 11 1, .iload 12, .iload 14, .ifCond .lt 10, .sipush 1, .goto 11], [174, 177, 179, 181, 184, 185, 188]),
  ([.sipush 0], [188, 189]),
  ([.ior, .istore 12, .iload 11, .iload 10, .if_icmp .le 13, .iload 7, .ifCond .eq 12, .iload 12, .ifCond .eq 13], [189, 190, 192, 194, 196, 199, 201, 204, 206, 209]),
  ([.iload 11, .goto 14], [209, 211, 214]),
  ([.iload 10], [214, 216]),
  ([.istore 10], [216, 218]),
  ([.iinc 13 1, .goto 8], [218, 221, 224]),
  ([.iload 10, .ireturn], [224, 226, 227])]
def zB_226 : List (List Instr × List Nat) := [
  ([.sipush 0, .istore 3], [0, 1, 2]),
  ([.iload 3, .iload 2, .if_icmp .ge 3, .aload 0, .getfield 785, .iload 1, .iload 3, .iadd, .iaload, .sipush 1, .sipush 255, .invokestatic 150, .ifCond .ne 2, .sipush 0, .ireturn], [2, 3, 4, 7, 8, 11, 12, 13, 14, 15, 16, 19, 22, 25, 26, 27]),
  ([.iinc 3 1, .goto 1], [27, 30, 33]),
  ([.sipush 1, .ireturn], [33, 34, 35])]
def zB_227 : List (List Instr × List Nat) := [
  ([.aload 0, .sipush 0, .putfield 768, .aload 0, .iload 1, .invokevirtual 152, .ifCond .eq 1, .iload 2, .invokestatic 174, .ifCond .ne 2], [0, 1, 2, 5, 6, 7, 10, 13, 14, 17, 20]),
  ([.sipush (-1), .ireturn], [20, 21, 22]),
  ([.iload 3, .invokestatic 175, .ifCond .ne 3, .sipush (-2), .ireturn], [22, 23, 26, 29, 31, 32]),
  ([.aload 0, .iload 2, .iload 3, .iload 4, .iload 5, .invokevirtual 173, .istore 6, .iload 6, .ifCond .eq 4, .iload 6, .ireturn], [32, 33, 34, 35, 37, 39, 42, 44, 46, 49, 51, 52]),
  ([.sipush 60, .iload 2, .imul, .iload 4, .iadd, .istore 7, .iload 5, .sipush 20, .if_icmp .gt 5, .aload 0, .iload 7, .iload 5, .invokevirtual 226, .ifCond .ne 6], [52, 54, 55, 56, 58, 59, 61, 63, 65, 68, 69, 71, 73, 76, 79]),
  ([.sipush (-2), .ireturn], [79, 81, 82]),
  ([.aload 0, .getfield 822, .iload 1, .iload 5, .iastore, .sipush 0, .istore 8], [82, 83, 86, 87, 89, 90, 91, 93]),
  ([.iload 8, .iload 5, .if_icmp .ge 8, .aload 0, .getfield 823, .sipush 20, .iload 1, .imul, .iload 8, .iadd, .aload 0, .getfield 785, .iload 7, .iload 8, .iadd, .iaload, .iastore, .iinc 8 1, .goto 7], [93, 95, 97, 100, 101, 104, 106, 107, 108, 110, 111, 112, 115, 117, 119, 120, 121, 122, 125, 128]),
  ([.iload 5, .ireturn], [128, 130, 131])]
def zB_228 : List (List Instr × List Nat) := [
  ([.aload 0, .sipush 0, .putfield 768, .iload 1, .invokestatic 174, .ifCond .ne 1, .sipush (-1), .ireturn], [0, 1, 2, 5, 6, 9, 12, 13, 14]),
  ([.iload 2, .invokestatic 175, .ifCond .eq 2, .iload 5, .sipush 0, .sipush 2100, .invokestatic 150, .ifCond .ne 3], [14, 15, 18, 21, 23, 24, 27, 30, 33]),
  ([.sipush (-2), .ireturn], [33, 35, 36]),
  ([.aload 0, .iload 1, .iload 2, .iload 3, .iload 4, .invokevirtual 173, .istore 6, .iload 6, .ifCond .eq 4, .iload 6, .ireturn], [36, 37, 38, 39, 40, 42, 45, 47, 49, 52, 54, 55]),
  ([.sipush 60, .iload 1, .imul, .iload 3, .iadd, .istore 7, .aload 0, .iload 7, .iload 4, .invokevirtual 226, .ifCond .ne 5, .sipush (-2), .ireturn], [55, 57, 58, 59, 60, 61, 63, 64, 66, 68, 71, 74, 76, 77]),
  ([.aload 0, .iload 4, .putfield 824, .aload 0, .iload 5, .putfield 826, .sipush 0, .istore 8], [77, 78, 80, 83, 84, 86, 89, 90, 92]),
  ([.iload 8, .iload 4, .if_icmp .ge 7, .aload 0, .getfield 825, .iload 8, .aload 0, .getfield 785, .iload 7, .iload 8, .iadd, .iaload, .iastore, .iinc 8 1, .goto 6], [92, 94, 96, 99, 100, 103, 105, 106, 109, 111, 113, 114, 115, 116, 119, 122]),
  ([.iload 4, .ireturn], [122, 124, 125])]
def zB_229 : List (List Instr × List Nat) := [
  ([.iload 0, .ifCond .le 1, .sipush 1, .goto 3], [0, 1, 4, 5, 8]),
  ([.iload 0, .ifCond .ge 2, .sipush (-1), .goto 3], [8, 9, 12, 13, 16]),
  ([.sipush 0], [16, 17]),
  ([.ireturn], [17, 18])]
def zB_230 : List (List Instr × List Nat) := [
  ([.aload 0, .sipush 0, .putfield 827, .aload 0, .sipush 0, .putfield 828, .sipush 0, .istore 3], [0, 1, 2, 5, 6, 7, 10, 11, 12]),
  ([.iload 3, .sipush 1, .iadd, .aload 0, .getfield 822, .iload 1, .iaload, .if_icmp .ge 7, .iload 2, .iload 3, .iadd, .istore 4, .iload 4, .ifCond .lt 6, .iload 4, .sipush 1, .iadd, .aload 0, .getfield 824, .if_icmp .ge 6, .aload 0, .getfield 823, .sipush 20, .iload 1, .imul, .iload 3, .iadd, .sipush 1, .iadd, .iaload, .aload 0, .getfield 823, .sipush 20, .iload 1, .imul, .iload 3, .iadd, .iaload, .isub, .invokestatic 229, .aload 0, .getfield 825, .iload 4, .sipush 1, .iadd, .iaload, .aload 0, .getfield 825, .iload 4, .iaload, .isub, .invokestatic 229, .if_icmp .ne 2, .sipush 1, .goto 3], [12, 13, 14, 15, 16, 19, 20, 21, 24, 25, 26, 27, 29, 31, 34, 36, 37, 38, 39, 42, 45, 46, 49, 51, 52, 53, 54, 55, 56, 57, 58, 59, 62, 64, 65, 66, 67, 68, 69, 70, 73, 74, 77, 79, 80, 81, 82, 83, 86, 88, 89, 90, 93, 96, 97, 100]),
  ([.sipush 0], [100, 101]),
  ([.istore 5, .aload 0, .dup, .getfield 827, .sipush 1, .iadd, .putfield 827, .aload 0, .dup, .getfield 828, .iload 5, .ifCond .eq 4, .sipush 1, .goto 5], [101, 103, 104, 105, 108, 109, 110, 113, 114, 115, 118, 120, 123, 124, 127]),
  ([.sipush (-1)], [127, 128]),
  ([.iadd, .putfield 828], [128, 129, 132]),
  ([.iinc 3 1, .goto 1], [132, 135, 138]),
  ([.return_], [138, 139])]
def zB_231 : List (List Instr × List Nat) := [
  ([.aload 0, .sipush 0, .putfield 827, .aload 0, .sipush 0, .putfield 828, .sipush 0, .istore 4], [0, 1, 2, 5, 6, 7, 10, 11, 13]),
  ([.iload 4, .sipush 1, .iadd, .aload 0, .getfield 822, .iload 1, .iaload, .if_icmp .ge 7, .iload 3, .iload 4, .iadd, .istore 5, .iload 5, .ifCond .lt 6, .iload 5, .sipush 1, .iadd, .aload 0, .getfield 822, .iload 2, .iaload, .if_icmp .ge 6, .aload 0, .getfield 823, .sipush 20, .iload 1, .imul, .iload 4, .iadd, .sipush 1, .iadd, .iaload, .aload 0, .getfield 823, .sipush 20, .iload 1, .imul, .iload 4, .iadd, .iaload, .isub, .invokestatic 229, .aload 0, .getfield 823, .sipush 20, .iload 2, .imul, .iload 5, .iadd, .sipush 1, .iadd, .iaload, .aload 0, .getfield 823, .sipush 20, .iload 2, .imul, .iload 5, .iadd, .iaload, .isub, .invokestatic 229, .if_icmp .ne 2, .sipush 1, .goto 3], [13, 15, 16, 17, 18, 21, 22, 23, 26, 27, 29, 30, 32, 34, 37, 39, 40, 41, 42, 45, 46, 47, 50, 51, 54, 56, 57, 58, 60, 61, 62, 63, 64, 65, 68, 70, 71, 72, 74, 75, 76, 77, 80, 81, 84, 86, 87, 88, 90, 91, 92, 93, 94, 95, 98, 100, 101, 102, 104, 105, 106, 107, 110, 113, 114, 117]),
  ([.sipush 0], [117, 118]),
  ([.istore 6, .aload 0, .dup, .getfield 827, .sipush 1, .iadd, .putfield 827, .aload 0, .dup, .getfield 828, .iload 6, .ifCond .eq 4, .sipush 1, .goto 5], [118, 120, 121, 122, 125, 126, 127, 130, 131, 132, 135, 137, 140, 141, 144]),
  ([.sipush (-1)], [144, 145]),
  ([.iadd, .putfield 828], [145, 146, 149]),
  ([.iinc 4 1, .goto 1], [149, 152, 155]),
  ([.return_], [155, 156])]
def zB_232 : List (List Instr × List Nat) := [
  ([.aload 0, .iload 1, .invokevirtual 152, .ifCond .eq 1, .aload 0, .getfield 822, .iload 1, .iaload, .ifCond .eq 1, .aload 0, .getfield 824, .ifCond .eq 1, .iload 2, .sipush 1, .aload 0, .getfield 822, .iload 1, .iaload, .isub, .aload 0, .getfield 824, .sipush 1, .isub, .invokestatic 150, .ifCond .eq 1, .iload 3, .sipush 0, .sipush 1, .invokestatic 150, .ifCond .ne 2], [0, 1, 2, 5, 8, 9, 12, 13, 14, 17, 18, 21, 24, 25, 26, 27, 30, 31, 32, 33, 34, 37, 38, 39, 42, 45, 46, 47, 48, 51, 54]),
  ([.ldc2_w 5, .lreturn], [54, 57, 58]),
  ([.aload 0, .iload 1, .iload 2, .invokevirtual 230, .iload 3, .ifCond .ne 3, .aload 0, .getfield 828, .i2l, .goto 4], [58, 59, 60, 61, 64, 65, 68, 69, 72, 73, 76]),
  ([.aload 0, .getfield 827, .i2l], [76, 77, 80, 81]),
  ([.lreturn], [81, 82])]
def zB_233 : List (List Instr × List Nat) := [
  ([.aload 0, .iload 1, .invokevirtual 152, .ifCond .eq 1, .iload 2, .sipush 0, .sipush 2, .invokestatic 150, .ifCond .ne 2], [0, 1, 2, 5, 8, 9, 10, 11, 14, 17]),
  ([.ldc2_w 5, .lreturn], [17, 20, 21]),
  ([.sipush 0, .istore 3, .sipush 0, .istore 4, .sipush 0, .istore 5, .sipush 1, .aload 0, .getfield 822, .iload 1, .iaload, .isub, .istore 6], [21, 22, 23, 24, 26, 27, 29, 30, 31, 34, 35, 36, 37, 39]),
  ([.iload 6, .aload 0, .getfield 824, .if_icmp .ge 6, .aload 0, .iload 1, .iload 6, .invokevirtual 230, .aload 0, .getfield 827, .sipush 5, .if_icmp .lt 5, .iload 3, .ifCond .eq 4, .aload 0, .getfield 828, .iload 5, .if_icmp .le 5], [39, 41, 42, 45, 48, 49, 50, 52, 55, 56, 59, 60, 63, 64, 67, 68, 71, 73, 76]),
  ([.sipush 1, .istore 3, .iload 6, .istore 4, .aload 0, .getfield 828, .istore 5], [76, 77, 78, 80, 82, 83, 86, 88]),
  ([.iinc 6 1, .goto 3], [88, 91, 94]),
  ([.iload 3, .ifCond .ne 7, .ldc2_w 5, .lreturn], [94, 95, 98, 101, 102]),
  ([.iload 2, .ifCond .ne 8, .iload 4, .i2l, .goto 10], [102, 103, 106, 108, 109, 112]),
  ([.iload 2, .sipush 1, .if_icmp .ne 9, .iload 5, .i2l, .goto 10], [112, 113, 114, 117, 119, 120, 123]),
  ([.aload 0, .getfield 826, .iload 4, .iadd, .aload 0, .getfield 822, .iload 1, .iaload, .iadd, .sipush 1, .isub, .i2l], [123, 124, 127, 129, 130, 131, 134, 135, 136, 137, 138, 139, 140]),
  ([.lreturn], [140, 141])]
def zB_234 : List (List Instr × List Nat) := [
  ([.aload 0, .iload 1, .invokevirtual 152, .ifCond .eq 1, .aload 0, .iload 2, .invokevirtual 152, .ifCond .ne 2], [0, 1, 2, 5, 8, 9, 10, 13, 16]),
  ([.sipush (-1), .ireturn], [16, 17, 18]),
  ([.iload 1, .iload 2, .if_icmp .ne 3, .sipush (-3), .ireturn], [18, 19, 20, 23, 25, 26]),
  ([.sipush 1, .aload 0, .getfield 822, .iload 1, .iaload, .isub, .istore 3], [26, 27, 28, 31, 32, 33, 34, 35]),
  ([.iload 3, .aload 0, .getfield 822, .iload 2, .iaload, .if_icmp .ge 6, .aload 0, .iload 1, .iload 2, .iload 3, .invokevirtual 231, .aload 0, .getfield 827, .sipush 5, .if_icmp .lt 5, .aload 0, .getfield 828, .aload 0, .getfield 827, .if_icmp .ne 5, .sipush 1, .ireturn], [35, 36, 37, 40, 41, 42, 45, 46, 47, 48, 49, 52, 53, 56, 57, 60, 61, 64, 65, 68, 71, 72, 73]),
  ([.iinc 3 1, .goto 4], [73, 76, 79]),
  ([.sipush 0, .ireturn], [79, 80, 81])]
def zB_235 : List (List Instr × List Nat) := [
  ([.iload 0, .lookupswitch 5 #[(65, 1), (66, 2), (72, 3), (89, 4)]], [0, 1, 44]),
  ([.sipush 0, .ireturn], [44, 45, 46]),
  ([.sipush 1, .ireturn], [46, 47, 48]),
  ([.sipush 2, .ireturn], [48, 49, 50]),
  ([.sipush 3, .ireturn], [50, 51, 52]),
  ([.sipush (-9), .ireturn], [52, 54, 55])]
def zB_236 : List (List Instr × List Nat) := [
  ([.sipush 0, .istore 3], [0, 1, 2]),
  ([.iload 3, .sipush 4, .if_icmp .ge 2, .aload 0, .getfield 830, .iload 3, .sipush (-9), .iastore, .iinc 3 1, .goto 1], [2, 3, 4, 7, 8, 11, 12, 14, 15, 18, 21]),
  ([.sipush 0, .istore 3, .sipush (-9), .istore 4, .sipush 0, .istore 5, .sipush 0, .istore 6], [21, 22, 23, 25, 27, 28, 30, 31, 33]),
  ([.iload 6, .iload 2, .if_icmp .ge 15, .aload 0, .getfield 785, .iload 1, .iload 6, .iadd, .iaload, .istore 7, .iload 4, .sipush (-9), .if_icmp .ne 6, .iload 7, .invokestatic 235, .istore 4, .iload 4, .sipush (-9), .if_icmp .eq 4, .aload 0, .getfield 830, .iload 4, .iaload, .sipush (-9), .if_icmp .eq 5], [33, 35, 36, 39, 40, 43, 44, 46, 47, 48, 50, 52, 54, 57, 59, 62, 64, 66, 68, 71, 72, 75, 77, 78, 80, 83]),
  ([.iload 6, .ireturn], [83, 85, 86]),
  ([.sipush 0, .istore 5, .goto 14], [86, 87, 89, 92]),
  ([.iload 7, .sipush 48, .sipush 57, .invokestatic 150, .ifCond .eq 11, .iload 5, .sipush 3, .if_icmp .eq 7, .iload 5, .ifCond .le 8, .aload 0, .getfield 830, .iload 4, .iaload, .ifCond .ne 8], [92, 94, 96, 98, 101, 104, 106, 107, 110, 112, 115, 116, 119, 121, 122, 125]),
  ([.iload 6, .ireturn], [125, 127, 128]),
  ([.aload 0, .getfield 830, .iload 4, .iload 5, .ifCond .ne 9, .sipush 0, .goto 10], [128, 129, 132, 134, 136, 139, 140, 143]),
  ([.sipush 10, .aload 0, .getfield 830, .iload 4, .iaload, .imul], [143, 145, 146, 149, 151, 152, 153]),
  ([.iload 7, .iadd, .sipush 48, .isub, .iastore, .iinc 5 1, .goto 14], [153, 155, 156, 158, 159, 160, 163, 166]),
  ([.iload 7, .sipush 59, .if_icmp .ne 12, .iload 5, .ifCond .eq 12, .iload 3, .sipush 3, .if_icmp .ne 13], [166, 168, 170, 173, 175, 178, 179, 180, 183]),
  ([.iload 6, .ireturn], [183, 185, 186]),
  ([.iinc 3 1, .sipush (-9), .istore 4], [186, 189, 191, 193]),
  ([.iinc 6 1, .goto 3], [193, 196, 199]),
  ([.iload 2, .ifCond .eq 16, .iload 4, .sipush (-9), .if_icmp .eq 17, .iload 5, .ifCond .le 17], [199, 200, 203, 205, 207, 210, 212, 215]),
  ([.sipush 1, .goto 18], [215, 216, 219]),
  ([.sipush 0], [219, 220]),
  ([.istore 6, .iload 6, .ifCond .eq 19, .sipush (-9), .goto 20], [220, 222, 224, 227, 229, 232]),
  ([.iload 2], [232, 233]),
  ([.ireturn], [233, 234])]
def zB_237 : List (List Instr × List Nat) := [
  ([.sipush 0, .istore 1, .sipush 0, .istore 2], [0, 1, 2, 3, 4]),
  ([.iload 2, .sipush 4, .if_icmp .ge 4, .iload 1, .aload 0, .getfield 829, .iload 2, .iaload, .sipush (-9), .if_icmp .ne 2, .sipush 0, .goto 3], [4, 5, 6, 9, 10, 11, 14, 15, 16, 18, 21, 22, 25]),
  ([.sipush 1], [25, 26]),
  ([.iadd, .istore 1, .iinc 2 1, .goto 1], [26, 27, 28, 31, 34]),
  ([.iload 1, .ireturn], [34, 35, 36])]
def zB_238 : List (List Instr × List Nat) := [
  ([.aload 0, .sipush 0, .putfield 768, .iload 1, .invokestatic 174, .ifCond .ne 1, .sipush (-1), .ireturn], [0, 1, 2, 5, 6, 9, 12, 13, 14]),
  ([.iload 2, .invokestatic 175, .ifCond .ne 2, .sipush (-2), .ireturn], [14, 15, 18, 21, 23, 24]),
  ([.aload 0, .iload 1, .iload 2, .iload 3, .iload 4, .invokevirtual 173, .istore 5, .iload 5, .ifCond .eq 3, .iload 5, .ireturn], [24, 25, 26, 27, 28, 30, 33, 35, 37, 40, 42, 43]),
  ([.aload 0, .sipush 60, .iload 1, .imul, .iload 3, .iadd, .iload 4, .invokevirtual 236, .istore 6, .iload 6, .sipush (-9), .if_icmp .eq 4, .sipush (-100), .iload 6, .isub, .ireturn], [43, 44, 46, 47, 48, 49, 50, 52, 55, 57, 59, 61, 64, 66, 68, 69, 70]),
  ([.sipush 0, .istore 7], [70, 71, 73]),
  ([.iload 7, .sipush 4, .if_icmp .ge 6, .aload 0, .getfield 829, .iload 7, .aload 0, .getfield 830, .iload 7, .iaload, .iastore, .iinc 7 1, .goto 5], [73, 75, 76, 79, 80, 83, 85, 86, 89, 91, 92, 93, 96, 99]),
  ([.aload 0, .invokevirtual 237, .ireturn], [99, 100, 103, 104])]
def zB_239 : List (List Instr × List Nat) := [
  ([.iload 1, .sipush 0, .sipush 3, .invokestatic 150, .ifCond .eq 1, .aload 0, .getfield 829, .iload 1, .iaload, .goto 2], [0, 1, 2, 3, 6, 9, 10, 13, 14, 15, 18]),
  ([.sipush (-1)], [18, 19]),
  ([.ireturn], [19, 20])]
def zB_240 : List (List Instr × List Nat) := [
  ([.aload 0, .sipush 0, .putfield 768, .iload 1, .invokestatic 174, .ifCond .ne 1, .sipush (-1), .ireturn], [0, 1, 2, 5, 6, 9, 12, 13, 14]),
  ([.iload 2, .invokestatic 175, .ifCond .eq 2, .iload 3, .sipush 60, .if_icmp .le 3], [14, 15, 18, 21, 22, 24, 27]),
  ([.sipush (-2), .ireturn], [27, 29, 30]),
  ([.iload 3, .ifCond .ge 4, .aload 0, .sipush 4, .invokevirtual 148, .ireturn], [30, 31, 34, 35, 36, 39, 40]),
  ([.aload 0, .getfield 783, .iload 1, .iload 2, .iastore, .aload 0, .getfield 784, .iload 1, .iload 3, .iastore, .sipush 0, .istore 4], [40, 41, 44, 45, 46, 47, 48, 51, 52, 53, 54, 55, 57]),
  ([.iload 4, .sipush 60, .if_icmp .ge 6, .aload 0, .getfield 785, .sipush 60, .iload 1, .imul, .iload 4, .iadd, .sipush 0, .iastore, .iinc 4 1, .goto 5], [57, 59, 61, 64, 65, 68, 70, 71, 72, 74, 75, 76, 77, 80, 83]),
  ([.sipush 1, .ireturn], [83, 84, 85])]
def zB_241 : List (List Instr × List Nat) := [
  ([.iload 1, .invokestatic 174, .ifCond .ne 1, .sipush (-1), .ireturn], [0, 1, 4, 7, 8, 9]),
  ([.aload 0, .getfield 783, .iload 1, .iaload, .sipush (-9), .if_icmp .ne 2, .sipush 0, .goto 3], [9, 10, 13, 14, 15, 17, 20, 21, 24]),
  ([.sipush 1], [24, 25]),
  ([.istore 2, .aload 0, .getfield 783, .iload 1, .sipush (-9), .iastore, .iload 2, .ireturn], [25, 26, 27, 30, 31, 33, 34, 35, 36])]
def zB_242 : List (List Instr × List Nat) := [
  ([.aload 0, .sipush 0, .putfield 768, .iload 1, .invokestatic 174, .ifCond .ne 1, .sipush (-1), .ireturn], [0, 1, 2, 5, 6, 9, 12, 13, 14]),
  ([.aload 0, .getfield 783, .iload 1, .iaload, .sipush (-9), .if_icmp .ne 2, .aload 0, .sipush 1, .invokevirtual 148, .ireturn], [14, 15, 18, 19, 20, 22, 25, 26, 27, 30, 31]),
  ([.iload 2, .sipush 0, .aload 0, .getfield 784, .iload 1, .iaload, .sipush 1, .isub, .invokestatic 150, .ifCond .ne 3, .aload 0, .sipush 3, .invokevirtual 148, .ireturn], [31, 32, 33, 34, 37, 38, 39, 40, 41, 44, 47, 48, 49, 52, 53]),
  ([.aload 0, .getfield 785, .sipush 60, .iload 1, .imul, .iload 2, .iadd, .aload 0, .getfield 783, .iload 1, .iaload, .ifCond .ne 4, .iload 3, .i2b, .goto 6], [53, 54, 57, 59, 60, 61, 62, 63, 64, 67, 68, 69, 72, 73, 74, 77]),
  ([.aload 0, .getfield 783, .iload 1, .iaload, .sipush 1, .if_icmp .ne 5, .iload 3, .i2s, .goto 6], [77, 78, 81, 82, 83, 84, 87, 88, 89, 92]),
  ([.iload 3], [92, 93]),
  ([.iastore, .sipush 1, .ireturn], [93, 94, 95, 96])]
def zB_243 : List (List Instr × List Nat) := [
  ([.aload 0, .sipush 0, .putfield 768, .iload 1, .invokestatic 174, .ifCond .eq 1, .iload 3, .invokestatic 175, .ifCond .ne 2], [0, 1, 2, 5, 6, 9, 12, 13, 16, 19]),
  ([.ldc2_w 5, .lreturn], [19, 22, 23]),
  ([.aload 0, .getfield 783, .iload 1, .iaload, .sipush (-9), .if_icmp .eq 3, .aload 0, .getfield 783, .iload 1, .iaload, .iload 3, .if_icmp .eq 3, .aload 0, .sipush 2, .invokevirtual 149, .lreturn], [23, 24, 27, 28, 29, 31, 34, 35, 38, 39, 40, 41, 44, 45, 46, 49, 50]),
  ([.aload 0, .getfield 783, .iload 1, .iaload, .sipush (-9), .if_icmp .ne 4, .aload 0, .sipush 1, .invokevirtual 149, .lreturn], [50, 51, 54, 55, 56, 58, 61, 62, 63, 66, 67]),
  ([.iload 2, .sipush 0, .aload 0, .getfield 784, .iload 1, .iaload, .sipush 1, .isub, .invokestatic 150, .ifCond .ne 5, .aload 0, .sipush 3, .invokevirtual 149, .lreturn], [67, 68, 69, 70, 73, 74, 75, 76, 77, 80, 83, 84, 85, 88, 89]),
  ([.aload 0, .getfield 785, .sipush 60, .iload 1, .imul, .iload 2, .iadd, .iaload, .i2l, .lreturn], [89, 90, 93, 95, 96, 97, 98, 99, 100, 101, 102])]
def zB_244 : List (List Instr × List Nat) := [
  ([.aload 0, .sipush 31, .aload 0, .getfield 769, .imul, .iload 1, .iadd, .putfield 769, .return_], [0, 1, 3, 4, 7, 8, 9, 10, 13, 14])]
def zB_245 : List (List Instr × List Nat) := [
  ([.aload 0, .iload 1, .invokevirtual 152, .ifCond .ne 1, .sipush (-1), .ireturn], [0, 1, 2, 5, 8, 9, 10]),
  ([.aload 0, .getfield 771, .iload 1, .iaload, .lookupswitch 4 #[(1, 2), (2, 3)]], [10, 11, 14, 15, 16, 44]),
  ([.aload 0, .sipush 2, .invokevirtual 244, .aload 0, .sipush 1, .invokevirtual 244, .aload 0, .getfield 772, .iload 1, .iaload, .aload 0, .getfield 822, .iload 1, .iaload, .iadd, .ireturn], [44, 45, 46, 49, 50, 51, 54, 55, 58, 59, 60, 61, 64, 65, 66, 67, 68]),
  ([.aload 0, .sipush 3, .invokevirtual 244, .aload 0, .sipush 2, .invokevirtual 244, .aload 0, .sipush 1, .invokevirtual 244, .aload 0, .sipush 1, .invokevirtual 244, .sipush 2, .aload 0, .getfield 772, .iload 1, .iaload, .imul, .aload 0, .getfield 822, .iload 1, .iaload, .iadd, .ireturn], [68, 69, 70, 73, 74, 75, 78, 79, 80, 83, 84, 85, 88, 89, 90, 93, 94, 95, 96, 97, 100, 101, 102, 103, 104]),
  ([.aload 0, .sipush 1, .invokevirtual 244, .aload 0, .getfield 772, .iload 1, .iaload, .ireturn], [104, 105, 106, 109, 110, 113, 114, 115, 116])]
def zB_246 : List (List Instr × List Nat) := [
  ([.aload 0, .iload 1, .invokevirtual 152, .ifCond .ne 1, .sipush (-1), .ireturn], [0, 1, 2, 5, 8, 9, 10]),
  ([.aload 0, .aload 0, .getfield 771, .iload 1, .iaload, .sipush 2, .if_icmp .ne 2, .sipush 5, .goto 3], [10, 11, 12, 15, 16, 17, 18, 21, 22, 25]),
  ([.sipush 4], [25, 26]),
  ([.invokevirtual 244, .aload 0, .getfield 771, .iload 1, .iaload, .sipush 2, .if_icmp .ne 4, .sipush 70, .goto 5], [26, 29, 30, 33, 34, 35, 36, 39, 41, 44]),
  ([.iload 1], [44, 45]),
  ([.ireturn], [45, 46])]
def zB_247 : List (List Instr × List Nat) := [
  ([.aload 0, .sipush 0, .putfield 768, .aload 0, .iload 1, .invokevirtual 152, .ifCond .ne 1, .sipush (-1), .ireturn], [0, 1, 2, 5, 6, 7, 10, 13, 14, 15]),
  ([.iload 2, .sipush 0, .sipush 2, .invokestatic 150, .ifCond .ne 2, .sipush (-2), .ireturn], [15, 16, 17, 18, 21, 24, 26, 27]),
  ([.aload 0, .getfield 771, .iload 1, .iaload, .iload 2, .if_icmp .lt 3, .sipush 1, .goto 4], [27, 28, 31, 32, 33, 34, 37, 38, 41]),
  ([.aload 0, .sipush 2, .invokevirtual 148], [41, 42, 43, 46]),
  ([.ireturn], [46, 47])]
def zB_248 : List (List Instr × List Nat) := [
  ([.aload 0, .getfield 769, .ireturn], [0, 1, 4, 5])]
def zB_249 : List (List Instr × List Nat) := [
  ([.aload 0, .getfield 768, .ireturn], [0, 1, 4, 5])]
def zB_250 : List (List Instr × List Nat) := [
  ([.iload 1, .lookupswitch 9 #[(0, 1), (1, 2), (2, 3), (3, 4), (4, 5), (5, 6), (6, 7), (7, 8)]], [0, 1, 48]),
  ([.aload 0, .getfield 770, .ireturn], [48, 49, 52, 53]),
  ([.aload 0, .getfield 774, .ireturn], [53, 54, 57, 58]),
  ([.aload 0, .getfield 787, .ireturn], [58, 59, 62, 63]),
  ([.aload 0, .getfield 793, .ireturn], [63, 64, 67, 68]),
  ([.aload 0, .getfield 804, .ireturn], [68, 69, 72, 73]),
  ([.aload 0, .getfield 813, .ireturn], [73, 74, 77, 78]),
  ([.aload 0, .getfield 824, .ireturn], [78, 79, 82, 83]),
  ([.aload 0, .invokevirtual 237, .ireturn], [83, 84, 87, 88]),
  ([.sipush (-2), .ireturn], [88, 90, 91])]
def zB_251 : List (List Instr × List Nat) := [
  ([.iload 0, .iload 0, .sipush 1, .iushr, .sipush 1431655765, .iand, .isub, .istore 0, .iload 0, .sipush 858993459, .iand, .iload 0, .sipush 2, .iushr, .sipush 858993459, .iand, .iadd, .istore 0, .iload 0, .iload 0, .sipush 4, .iushr, .iadd, .sipush 252645135, .iand, .istore 0, .iload 0, .iload 0, .sipush 8, .iushr, .iadd, .istore 0, .iload 0, .iload 0, .sipush 16, .iushr, .iadd, .istore 0, .iload 0, .sipush 63, .iand, .ireturn], [0, 1, 2, 3, 4, 7, 8, 9, 10, 11, 14, 15, 16, 17, 18, 21, 22, 23, 24, 25, 26, 27, 28, 29, 32, 33, 34, 35, 36, 38, 39, 40, 41, 42, 43, 45, 46, 47, 48, 49, 51, 52, 53])]
def zB_252 : List (List Instr × List Nat) := [
  ([.sipush 0, .istore 3, .aload 0, .arraylength, .istore 4], [0, 1, 2, 3, 4, 6]),
  ([.iload 3, .iload 4, .if_icmp .ge 2, .aload 0, .iload 3, .lload 1, .lastore, .iinc 3 1, .goto 1], [6, 7, 9, 12, 13, 14, 15, 16, 19, 22]),
  ([.return_], [22, 23])]
def zB_253 : List (List Instr × List Nat) := [
  ([.sipush 0, .istore 2, .aload 0, .arraylength, .istore 3], [0, 1, 2, 3, 4, 5]),
  ([.iload 2, .iload 3, .if_icmp .ge 2, .aload 0, .iload 2, .iload 1, .iastore, .iinc 2 1, .goto 1], [5, 6, 7, 10, 11, 12, 13, 14, 17, 20]),
  ([.return_], [20, 21])]
set_option maxRecDepth 100000 in
def zB_254_0 : List Instr × List Nat := ([.sipush 0, .istore 3], [16, 17, 18])
set_option maxRecDepth 100000 in
def zB_254_1 : List Instr × List Nat := ([.iload 3, .aload 0, .arraylength, .sipush 8, .isub, .if_icmp .gt 56, .aload 0, .iload 3, .iaload, .sipush 63, .iand, .lookupswitch 55 #[(0, 2), (1, 3), (2, 4), (3, 5), (4, 10), (5, 11), (6, 12), (7, 13), (8, 14), (9, 15), (10, 16), (11, 17), (12, 18), (13, 19), (14, 20), (15, 21), (16, 22), (17, 23), (18, 24), (19, 25), (20, 26), (21, 27), (22, 28), (23, 29), (24, 30), (25, 31), (26, 32), (27, 33), (28, 34), (29, 35), (30, 36), (31, 37), (32, 38), (33, 39), (34, 40), (35, 41), (36, 42), (37, 43), (38, 44), (39, 45), (40, 46), (41, 47), (42, 48), (43, 49), (44, 50), (45, 51), (46, 52), (47, 53), (48, 54)]], [18, 19, 20, 21, 23, 24, 27, 28, 29, 30, 32, 33, 244])
set_option maxRecDepth 100000 in
def zB_254_2 : List Instr × List Nat := ([.aload 1, .aload 0, .iload 3, .sipush 1, .iadd, .iaload, .aload 0, .iload 3, .sipush 2, .iadd, .iaload, .aload 0, .iload 3, .sipush 3, .iadd, .iaload, .invokevirtual 84, .aload 2, .aload 0, .iload 3, .sipush 1, .iadd, .iaload, .aload 0, .iload 3, .sipush 2, .iadd, .iaload, .aload 0, .iload 3, .sipush 3, .iadd, .iaload, .invokevirtual 154, .if_icmp .eq 55, .sipush 0, .ireturn], [244, 245, 246, 247, 248, 249, 250, 251, 252, 253, 254, 255, 256, 257, 258, 259, 260, 263, 264, 265, 266, 267, 268, 269, 270, 271, 272, 273, 274, 275, 276, 277, 278, 279, 282, 285, 286, 287])
set_option maxRecDepth 100000 in
def zB_254_3 : List Instr × List Nat := ([.aload 1, .aload 0, .iload 3, .sipush 1, .iadd, .iaload, .invokevirtual 85, .aload 2, .aload 0, .iload 3, .sipush 1, .iadd, .iaload, .invokevirtual 155, .if_icmp .eq 55, .sipush 0, .ireturn], [287, 288, 289, 290, 291, 292, 293, 296, 297, 298, 299, 300, 301, 302, 305, 308, 309, 310])
set_option maxRecDepth 100000 in
def zB_254_4 : List Instr × List Nat := ([.aload 1, .aload 0, .iload 3, .sipush 1, .iadd, .iaload, .aload 0, .iload 3, .sipush 2, .iadd, .iaload, .aload 0, .iload 3, .sipush 3, .iadd, .iaload, .invokevirtual 86, .aload 2, .aload 0, .iload 3, .sipush 1, .iadd, .iaload, .aload 0, .iload 3, .sipush 2, .iadd, .iaload, .aload 0, .iload 3, .sipush 3, .iadd, .iaload, .invokevirtual 156, .if_icmp .eq 55, .sipush 0, .ireturn], [310, 311, 312, 313, 314, 315, 316, 317, 318, 319, 320, 321, 322, 323, 324, 325, 326, 329, 330, 331, 332, 333, 334, 335, 336, 337, 338, 339, 340, 341, 342, 343, 344, 345, 348, 351, 352, 353])
set_option maxRecDepth 100000 in
def zB_254_5 : List Instr × List Nat := ([.aload 1, .aload 0, .iload 3, .sipush 1, .iadd, .iaload, .aload 0, .iload 3, .sipush 2, .iadd, .iaload, .aload 0, .iload 3, .sipush 3, .iadd, .iaload, .ifCond .eq 6, .sipush 1, .goto 7], [353, 354, 355, 356, 357, 358, 359, 360, 361, 362, 363, 364, 365, 366, 367, 368, 369, 372, 373, 376])
set_option maxRecDepth 100000 in
def zB_254_6 : List Instr × List Nat := ([.sipush 0], [376, 377])
set_option maxRecDepth 100000 in
def zB_254_7 : List Instr × List Nat := ([.invokevirtual 87, .aload 2, .aload 0, .iload 3, .sipush 1, .iadd, .iaload, .aload 0, .iload 3, .sipush 2, .iadd, .iaload, .aload 0, .iload 3, .sipush 3, .iadd, .iaload, .ifCond .eq 8, .sipush 1, .goto 9], [377, 380, 381, 382, 383, 384, 385, 386, 387, 388, 389, 390, 391, 392, 393, 394, 395, 396, 399, 400, 403])
set_option maxRecDepth 100000 in
def zB_254_8 : List Instr × List Nat := ([.sipush 0], [403, 404])
set_option maxRecDepth 100000 in
def zB_254_9 : List Instr × List Nat := ([.invokevirtual 157, .if_icmp .eq 55, .sipush 0, .ireturn], [404, 407, 410, 411, 412])
set_option maxRecDepth 100000 in
def zB_254_10 : List Instr × List Nat := ([.aload 1, .aload 0, .iload 3, .sipush 1, .iadd, .iaload, .aload 0, .iload 3, .sipush 2, .iadd, .iaload, .invokevirtual 88, .aload 2, .aload 0, .iload 3, .sipush 1, .iadd, .iaload, .aload 0, .iload 3, .sipush 2, .iadd, .iaload, .invokevirtual 160, .if_icmp .eq 55, .sipush 0, .ireturn], [412, 413, 414, 415, 416, 417, 418, 419, 420, 421, 422, 423, 426, 427, 428, 429, 430, 431, 432, 433, 434, 435, 436, 437, 440, 443, 444, 445])
set_option maxRecDepth 100000 in
def zB_254_11 : List Instr × List Nat := ([.aload 1, .aload 0, .iload 3, .sipush 1, .iadd, .iaload, .aload 0, .iload 3, .sipush 2, .iadd, .iaload, .invokevirtual 89, .aload 2, .aload 0, .iload 3, .sipush 1, .iadd, .iaload, .aload 0, .iload 3, .sipush 2, .iadd, .iaload, .invokevirtual 162, .if_icmp .eq 55, .sipush 0, .ireturn], [445, 446, 447, 448, 449, 450, 451, 452, 453, 454, 455, 456, 459, 460, 461, 462, 463, 464, 465, 466, 467, 468, 469, 470, 473, 476, 477, 478])
set_option maxRecDepth 100000 in
def zB_254_12 : List Instr × List Nat := ([.aload 1, .aload 0, .iload 3, .sipush 1, .iadd, .iaload, .aload 0, .iload 3, .sipush 2, .iadd, .iaload, .invokevirtual 90, .aload 2, .aload 0, .iload 3, .sipush 1, .iadd, .iaload, .aload 0, .iload 3, .sipush 2, .iadd, .iaload, .invokevirtual 163, .if_icmp .eq 55, .sipush 0, .ireturn], [478, 479, 480, 481, 482, 483, 484, 485, 486, 487, 488, 489, 492, 493, 494, 495, 496, 497, 498, 499, 500, 501, 502, 503, 506, 509, 510, 511])
set_option maxRecDepth 100000 in
def zB_254_13 : List Instr × List Nat := ([.aload 1, .invokevirtual 91, .aload 2, .invokevirtual 166, .if_icmp .eq 55, .sipush 0, .ireturn], [511, 512, 515, 516, 519, 522, 523, 524])
set_option maxRecDepth 100000 in
def zB_254_14 : List Instr × List Nat := ([.aload 1, .aload 0, .iload 3, .sipush 1, .iadd, .iaload, .aload 0, .iload 3, .sipush 2, .iadd, .iaload, .invokevirtual 92, .aload 2, .aload 0, .iload 3, .sipush 1, .iadd, .iaload, .aload 0, .iload 3, .sipush 2, .iadd, .iaload, .invokevirtual 172, .if_icmp .eq 55, .sipush 0, .ireturn], [524, 525, 526, 527, 528, 529, 530, 531, 532, 533, 534, 535, 538, 539, 540, 541, 542, 543, 544, 545, 546, 547, 548, 549, 552, 555, 556, 557])
set_option maxRecDepth 100000 in
def zB_254_15 : List Instr × List Nat := ([.aload 1, .aload 0, .iload 3, .sipush 1, .iadd, .iaload, .aload 0, .iload 3, .sipush 2, .iadd, .iaload, .aload 0, .iload 3, .sipush 3, .iadd, .iaload, .invokevirtual 93, .aload 2, .aload 0, .iload 3, .sipush 1, .iadd, .iaload, .aload 0, .iload 3, .sipush 2, .iadd, .iaload, .aload 0, .iload 3, .sipush 3, .iadd, .iaload, .invokevirtual 182, .if_icmp .eq 55, .sipush 0, .ireturn], [557, 558, 559, 560, 561, 562, 563, 564, 565, 566, 567, 568, 569, 570, 571, 572, 573, 576, 577, 578, 579, 580, 581, 582, 583, 584, 585, 586, 587, 588, 589, 590, 591, 592, 595, 598, 599, 600])
set_option maxRecDepth 100000 in
def zB_254_16 : List Instr × List Nat := ([.aload 1, .aload 0, .iload 3, .sipush 1, .iadd, .iaload, .aload 0, .iload 3, .sipush 2, .iadd, .iaload, .aload 0, .iload 3, .sipush 3, .iadd, .iaload, .aload 0, .iload 3, .sipush 4, .iadd, .iaload, .invokevirtual 94, .aload 2, .aload 0, .iload 3, .sipush 1, .iadd, .iaload, .aload 0, .iload 3, .sipush 2, .iadd, .iaload, .aload 0, .iload 3, .sipush 3, .iadd, .iaload, .aload 0, .iload 3, .sipush 4, .iadd, .iaload, .invokevirtual 183, .if_icmp .eq 55, .sipush 0, .ireturn], [600, 601, 602, 603, 604, 605, 606, 607, 608, 609, 610, 611, 612, 613, 614, 615, 616, 617, 618, 619, 620, 621, 624, 625, 626, 627, 628, 629, 630, 631, 632, 633, 634, 635, 636, 637, 638, 639, 640, 641, 642, 643, 644, 645, 648, 651, 652, 653])
set_option maxRecDepth 100000 in
def zB_254_17 : List Instr × List Nat := ([.aload 1, .aload 0, .iload 3, .sipush 1, .iadd, .iaload, .aload 0, .iload 3, .sipush 2, .iadd, .iaload, .aload 0, .iload 3, .sipush 3, .iadd, .iaload, .aload 0, .iload 3, .sipush 4, .iadd, .iaload, .invokevirtual 95, .aload 2, .aload 0, .iload 3, .sipush 1, .iadd, .iaload, .aload 0, .iload 3, .sipush 2, .iadd, .iaload, .aload 0, .iload 3, .sipush 3, .iadd, .iaload, .aload 0, .iload 3, .sipush 4, .iadd, .iaload, .invokevirtual 186, .if_icmp .eq 55, .sipush 0, .ireturn], [653, 654, 655, 656, 657, 658, 659, 660, 661, 662, 663, 664, 665, 666, 667, 668, 669, 670, 671, 672, 673, 674, 677, 678, 679, 680, 681, 682, 683, 684, 685, 686, 687, 688, 689, 690, 691, 692, 693, 694, 695, 696, 697, 698, 701, 704, 705, 706])
set_option maxRecDepth 100000 in
def zB_254_18 : List Instr × List Nat := ([.aload 1, .aload 0, .iload 3, .sipush 1, .iadd, .iaload, .aload 0, .iload 3, .sipush 2, .iadd, .iaload, .invokevirtual 96, .aload 2, .aload 0, .iload 3, .sipush 1, .iadd, .iaload, .aload 0, .iload 3, .sipush 2, .iadd, .iaload, .invokevirtual 187, .if_icmp .eq 55, .sipush 0, .ireturn], [706, 707, 708, 709, 710, 711, 712, 713, 714, 715, 716, 717, 720, 721, 722, 723, 724, 725, 726, 727, 728, 729, 730, 731, 734, 737, 738, 739])
set_option maxRecDepth 100000 in
def zB_254_19 : List Instr × List Nat := ([.aload 1, .aload 0, .iload 3, .sipush 1, .iadd, .iaload, .aload 0, .iload 3, .sipush 2, .iadd, .iaload, .invokevirtual 97, .aload 2, .aload 0, .iload 3, .sipush 1, .iadd, .iaload, .aload 0, .iload 3, .sipush 2, .iadd, .iaload, .invokevirtual 188, .if_icmp .eq 55, .sipush 0, .ireturn], [739, 740, 741, 742, 743, 744, 745, 746, 747, 748, 749, 750, 753, 754, 755, 756, 757, 758, 759, 760, 761, 762, 763, 764, 767, 770, 771, 772])
set_option maxRecDepth 100000 in
def zB_254_20 : List Instr × List Nat := ([.aload 1, .aload 0, .iload 3, .sipush 1, .iadd, .iaload, .aload 0, .iload 3, .sipush 2, .iadd, .iaload, .invokevirtual 98, .aload 2, .aload 0, .iload 3, .sipush 1, .iadd, .iaload, .aload 0, .iload 3, .sipush 2, .iadd, .iaload, .invokevirtual 191, .if_icmp .eq 55, .sipush 0, .ireturn], [772, 773, 774, 775, 776, 777, 778, 779, 780, 781, 782, 783, 786, 787, 788, 789, 790, 791, 792, 793, 794, 795, 796, 797, 800, 803, 804, 805])
set_option maxRecDepth 100000 in
def zB_254_21 : List Instr × List Nat := ([.aload 1, .aload 0, .iload 3, .sipush 1, .iadd, .iaload, .aload 0, .iload 3, .sipush 2, .iadd, .iaload, .aload 0, .iload 3, .sipush 3, .iadd, .iaload, .invokevirtual 99, .aload 2, .aload 0, .iload 3, .sipush 1, .iadd, .iaload, .aload 0, .iload 3, .sipush 2, .iadd, .iaload, .aload 0, .iload 3, .sipush 3, .iadd, .iaload, .invokevirtual 193, .if_icmp .eq 55, .sipush 0, .ireturn], [805, 806, 807, 808, 809, 810, 811, 812, 813, 814, 815, 816, 817, 818, 819, 820, 821, 824, 825, 826, 827, 828, 829, 830, 831, 832, 833, 834, 835, 836, 837, 838, 839, 840, 843, 846, 847, 848])
set_option maxRecDepth 100000 in
def zB_254_22 : List Instr × List Nat := ([.aload 1, .aload 0, .iload 3, .sipush 1, .iadd, .iaload, .aload 0, .iload 3, .sipush 2, .iadd, .iaload, .aload 0, .iload 3, .sipush 3, .iadd, .iaload, .invokevirtual 100, .aload 2, .aload 0, .iload 3, .sipush 1, .iadd, .iaload, .aload 0, .iload 3, .sipush 2, .iadd, .iaload, .aload 0, .iload 3, .sipush 3, .iadd, .iaload, .invokevirtual 194, .if_icmp .eq 55, .sipush 0, .ireturn], [848, 849, 850, 851, 852, 853, 854, 855, 856, 857, 858, 859, 860, 861, 862, 863, 864, 867, 868, 869, 870, 871, 872, 873, 874, 875, 876, 877, 878, 879, 880, 881, 882, 883, 886, 889, 890, 891])
set_option maxRecDepth 100000 in
def zB_254_23 : List Instr × List Nat := ([.aload 1, .aload 0, .iload 3, .sipush 1, .iadd, .iaload, .aload 0, .iload 3, .sipush 2, .iadd, .iaload, .aload 0, .iload 3, .sipush 3, .iadd, .iaload, .invokevirtual 101, .aload 2, .aload 0, .iload 3, .sipush 1, .iadd, .iaload, .aload 0, .iload 3, .sipush 2, .iadd, .iaload, .aload 0, .iload 3, .sipush 3, .iadd, .iaload, .invokevirtual 196, .if_icmp .eq 55, .sipush 0, .ireturn], [891, 892, 893, 894, 895, 896, 897, 898, 899, 900, 901, 902, 903, 904, 905, 906, 907, 910, 911, 912, 913, 914, 915, 916, 917, 918, 919, 920, 921, 922, 923, 924, 925, 926, 929, 932, 933, 934])
set_option maxRecDepth 100000 in
def zB_254_24 : List Instr × List Nat := ([.aload 1, .aload 0, .iload 3, .sipush 1, .iadd, .iaload, .aload 0, .iload 3, .sipush 2, .iadd, .iaload, .invokevirtual 102, .aload 2, .aload 0, .iload 3, .sipush 1, .iadd, .iaload, .aload 0, .iload 3, .sipush 2, .iadd, .iaload, .invokevirtual 197, .if_icmp .eq 55, .sipush 0, .ireturn], [934, 935, 936, 937, 938, 939, 940, 941, 942, 943, 944, 945, 948, 949, 950, 951, 952, 953, 954, 955, 956, 957, 958, 959, 962, 965, 966, 967])
set_option maxRecDepth 100000 in
def zB_254_25 : List Instr × List Nat := ([.aload 1, .aload 0, .iload 3, .sipush 1, .iadd, .iaload, .invokevirtual 103, .aload 2, .aload 0, .iload 3, .sipush 1, .iadd, .iaload, .invokevirtual 198, .if_icmp .eq 55, .sipush 0, .ireturn], [967, 968, 969, 970, 971, 972, 973, 976, 977, 978, 979, 980, 981, 982, 985, 988, 989, 990])
set_option maxRecDepth 100000 in
def zB_254_26 : List Instr × List Nat := ([.aload 1, .aload 0, .iload 3, .sipush 1, .iadd, .iaload, .aload 0, .iload 3, .sipush 2, .iadd, .iaload, .aload 0, .iload 3, .sipush 3, .iadd, .iaload, .aload 0, .iload 3, .sipush 4, .iadd, .iaload, .aload 0, .iload 3, .sipush 5, .iadd, .iaload, .invokevirtual 104, .aload 2, .aload 0, .iload 3, .sipush 1, .iadd, .iaload, .aload 0, .iload 3, .sipush 2, .iadd, .iaload, .aload 0, .iload 3, .sipush 3, .iadd, .iaload, .aload 0, .iload 3, .sipush 4, .iadd, .iaload, .aload 0, .iload 3, .sipush 5, .iadd, .iaload, .invokevirtual 201, .if_icmp .eq 55, .sipush 0, .ireturn], [990, 991, 992, 993, 994, 995, 996, 997, 998, 999, 1000, 1001, 1002, 1003, 1004, 1005, 1006, 1007, 1008, 1009, 1010, 1011, 1012, 1013, 1014, 1015, 1016, 1019, 1020, 1021, 1022, 1023, 1024, 1025, 1026, 1027, 1028, 1029, 1030, 1031, 1032, 1033, 1034, 1035, 1036, 1037, 1038, 1039, 1040, 1041, 1042, 1043, 1044, 1045, 1048, 1051, 1052, 1053])
set_option maxRecDepth 100000 in
def zB_254_27 : List Instr × List Nat := ([.aload 1, .aload 0, .iload 3, .sipush 1, .iadd, .iaload, .aload 0, .iload 3, .sipush 2, .iadd, .iaload, .aload 0, .iload 3, .sipush 3, .iadd, .iaload, .aload 0, .iload 3, .sipush 4, .iadd, .iaload, .invokevirtual 105, .aload 2, .aload 0, .iload 3, .sipush 1, .iadd, .iaload, .aload 0, .iload 3, .sipush 2, .iadd, .iaload, .aload 0, .iload 3, .sipush 3, .iadd, .iaload, .aload 0, .iload 3, .sipush 4, .iadd, .iaload, .invokevirtual 203, .if_icmp .eq 55, .sipush 0, .ireturn], [1053, 1054, 1055, 1056, 1057, 1058, 1059, 1060, 1061, 1062, 1063, 1064, 1065, 1066, 1067, 1068, 1069, 1070, 1071, 1072, 1073, 1074, 1077, 1078, 1079, 1080, 1081, 1082, 1083, 1084, 1085, 1086, 1087, 1088, 1089, 1090, 1091, 1092, 1093, 1094, 1095, 1096, 1097, 1098, 1101, 1104, 1105, 1106])
set_option maxRecDepth 100000 in
def zB_254_28 : List Instr × List Nat := ([.aload 1, .aload 0, .iload 3, .sipush 1, .iadd, .iaload, .aload 0, .iload 3, .sipush 2, .iadd, .iaload, .invokevirtual 106, .aload 2, .aload 0, .iload 3, .sipush 1, .iadd, .iaload, .aload 0, .iload 3, .sipush 2, .iadd, .iaload, .invokevirtual 210, .if_icmp .eq 55, .sipush 0, .ireturn], [1106, 1107, 1108, 1109, 1110, 1111, 1112, 1113, 1114, 1115, 1116, 1117, 1120, 1121, 1122, 1123, 1124, 1125, 1126, 1127, 1128, 1129, 1130, 1131, 1134, 1137, 1138, 1139])
set_option maxRecDepth 100000 in
def zB_254_29 : List Instr × List Nat := ([.aload 1, .aload 0, .iload 3, .sipush 1, .iadd, .iaload, .aload 0, .iload 3, .sipush 2, .iadd, .iaload, .aload 0, .iload 3, .sipush 3, .iadd, .iaload, .invokevirtual 107, .aload 2, .aload 0, .iload 3, .sipush 1, .iadd, .iaload, .aload 0, .iload 3, .sipush 2, .iadd, .iaload, .aload 0, .iload 3, .sipush 3, .iadd, .iaload, .invokevirtual 211, .if_icmp .eq 55, .sipush 0, .ireturn], [1139, 1140, 1141, 1142, 1143, 1144, 1145, 1146, 1147, 1148, 1149, 1150, 1151, 1152, 1153, 1154, 1155, 1158, 1159, 1160, 1161, 1162, 1163, 1164, 1165, 1166, 1167, 1168, 1169, 1170, 1171, 1172, 1173, 1174, 1177, 1180, 1181, 1182])
set_option maxRecDepth 100000 in
def zB_254_30 : List Instr × List Nat := ([.aload 1, .aload 0, .iload 3, .sipush 1, .iadd, .iaload, .aload 0, .iload 3, .sipush 2, .iadd, .iaload, .aload 0, .iload 3, .sipush 3, .iadd, .iaload, .invokevirtual 108, .aload 2, .aload 0, .iload 3, .sipush 1, .iadd, .iaload, .aload 0, .iload 3, .sipush 2, .iadd, .iaload, .aload 0, .iload 3, .sipush 3, .iadd, .iaload, .invokevirtual 214, .if_icmp .eq 55, .sipush 0, .ireturn], [1182, 1183, 1184, 1185, 1186, 1187, 1188, 1189, 1190, 1191, 1192, 1193, 1194, 1195, 1196, 1197, 1198, 1201, 1202, 1203, 1204, 1205, 1206, 1207, 1208, 1209, 1210, 1211, 1212, 1213, 1214, 1215, 1216, 1217, 1220, 1223, 1224, 1225])
set_option maxRecDepth 100000 in
def zB_254_31 : List Instr × List Nat := ([.aload 1, .aload 0, .iload 3, .sipush 1, .iadd, .iaload, .aload 0, .iload 3, .sipush 2, .iadd, .iaload, .aload 0, .iload 3, .sipush 3, .iadd, .iaload, .invokevirtual 109, .aload 2, .aload 0, .iload 3, .sipush 1, .iadd, .iaload, .aload 0, .iload 3, .sipush 2, .iadd, .iaload, .aload 0, .iload 3, .sipush 3, .iadd, .iaload, .invokevirtual 215, .if_icmp .eq 55, .sipush 0, .ireturn], [1225, 1226, 1227, 1228, 1229, 1230, 1231, 1232, 1233, 1234, 1235, 1236, 1237, 1238, 1239, 1240, 1241, 1244, 1245, 1246, 1247, 1248, 1249, 1250, 1251, 1252, 1253, 1254, 1255, 1256, 1257, 1258, 1259, 1260, 1263, 1266, 1267, 1268])
set_option maxRecDepth 100000 in
def zB_254_32 : List Instr × List Nat := ([.aload 1, .aload 0, .iload 3, .sipush 1, .iadd, .iaload, .aload 0, .iload 3, .sipush 2, .iadd, .iaload, .invokevirtual 110, .aload 2, .aload 0, .iload 3, .sipush 1, .iadd, .iaload, .aload 0, .iload 3, .sipush 2, .iadd, .iaload, .invokevirtual 216, .if_icmp .eq 55, .sipush 0, .ireturn], [1268, 1269, 1270, 1271, 1272, 1273, 1274, 1275, 1276, 1277, 1278, 1279, 1282, 1283, 1284, 1285, 1286, 1287, 1288, 1289, 1290, 1291, 1292, 1293, 1296, 1299, 1300, 1301])
set_option maxRecDepth 100000 in
def zB_254_33 : List Instr × List Nat := ([.aload 1, .aload 0, .iload 3, .sipush 1, .iadd, .iaload, .invokevirtual 111, .aload 2, .aload 0, .iload 3, .sipush 1, .iadd, .iaload, .invokevirtual 221, .if_icmp .eq 55, .sipush 0, .ireturn], [1301, 1302, 1303, 1304, 1305, 1306, 1307, 1310, 1311, 1312, 1313, 1314, 1315, 1316, 1319, 1322, 1323, 1324])
set_option maxRecDepth 100000 in
def zB_254_34 : List Instr × List Nat := ([.aload 1, .aload 0, .iload 3, .sipush 1, .iadd, .iaload, .invokevirtual 112, .aload 2, .aload 0, .iload 3, .sipush 1, .iadd, .iaload, .invokevirtual 222, .if_icmp .eq 55, .sipush 0, .ireturn], [1324, 1325, 1326, 1327, 1328, 1329, 1330, 1333, 1334, 1335, 1336, 1337, 1338, 1339, 1342, 1345, 1346, 1347])
set_option maxRecDepth 100000 in
def zB_254_35 : List Instr × List Nat := ([.aload 1, .aload 0, .iload 3, .sipush 1, .iadd, .iaload, .invokevirtual 113, .aload 2, .aload 0, .iload 3, .sipush 1, .iadd, .iaload, .invokevirtual 223, .if_icmp .eq 55, .sipush 0, .ireturn], [1347, 1348, 1349, 1350, 1351, 1352, 1353, 1356, 1357, 1358, 1359, 1360, 1361, 1362, 1365, 1368, 1369, 1370])
set_option maxRecDepth 100000 in
def zB_254_36 : List Instr × List Nat := ([.aload 1, .invokevirtual 114, .aload 2, .invokevirtual 224, .if_icmp .eq 55, .sipush 0, .ireturn], [1370, 1371, 1374, 1375, 1378, 1381, 1382, 1383])
set_option maxRecDepth 100000 in
def zB_254_37 : List Instr × List Nat := ([.aload 1, .aload 0, .iload 3, .sipush 1, .iadd, .iaload, .aload 0, .iload 3, .sipush 2, .iadd, .iaload, .aload 0, .iload 3, .sipush 3, .iadd, .iaload, .aload 0, .iload 3, .sipush 4, .iadd, .iaload, .aload 0, .iload 3, .sipush 5, .iadd, .iaload, .aload 0, .iload 3, .sipush 6, .iadd, .iaload, .aload 0, .iload 3, .sipush 7, .iadd, .iaload, .invokevirtual 115, .aload 2, .aload 0, .iload 3, .sipush 1, .iadd, .iaload, .aload 0, .iload 3, .sipush 2, .iadd, .iaload, .aload 0, .iload 3, .sipush 3, .iadd, .iaload, .aload 0, .iload 3, .sipush 4, .iadd, .iaload, .aload 0, .iload 3, .sipush 5, .iadd, .iaload, .aload 0, .iload 3, .sipush 6, .iadd, .iaload, .aload 0, .iload 3, .sipush 7, .iadd, .iaload, .invokevirtual 225, .if_icmp .eq 55, .sipush 0, .ireturn], [1383, 1384, 1385, 1386, 1387, 1388, 1389, 1390, 1391, 1392, 1393, 1394, 1395, 1396, 1397, 1398, 1399, 1400, 1401, 1402, 1403, 1404, 1405, 1406, 1407, 1408, 1409, 1410, 1411, 1413, 1414, 1415, 1416, 1417, 1419, 1420, 1421, 1424, 1425, 1426, 1427, 1428, 1429, 1430, 1431, 1432, 1433, 1434, 1435, 1436, 1437, 1438, 1439, 1440, 1441, 1442, 1443, 1444, 1445, 1446, 1447, 1448, 1449, 1450, 1451, 1452, 1454, 1455, 1456, 1457, 1458, 1460, 1461, 1462, 1465, 1468, 1469, 1470])
set_option maxRecDepth 100000 in
def zB_254_38 : List Instr × List Nat := ([.aload 1, .aload 0, .iload 3, .sipush 1, .iadd, .iaload, .aload 0, .iload 3, .sipush 2, .iadd, .iaload, .aload 0, .iload 3, .sipush 3, .iadd, .iaload, .aload 0, .iload 3, .sipush 4, .iadd, .iaload, .aload 0, .iload 3, .sipush 5, .iadd, .iaload, .invokevirtual 116, .aload 2, .aload 0, .iload 3, .sipush 1, .iadd, .iaload, .aload 0, .iload 3, .sipush 2, .iadd, .iaload, .aload 0, .iload 3, .sipush 3, .iadd, .iaload, .aload 0, .iload 3, .sipush 4, .iadd, .iaload, .aload 0, .iload 3, .sipush 5, .iadd, .iaload, .invokevirtual 227, .if_icmp .eq 55, .sipush 0, .ireturn], [1470, 1471, 1472, 1473, 1474, 1475, 1476, 1477, 1478, 1479, 1480, 1481, 1482, 1483, 1484, 1485, 1486, 1487, 1488, 1489, 1490, 1491, 1492, 1493, 1494, 1495, 1496, 1499, 1500, 1501, 1502, 1503, 1504, 1505, 1506, 1507, 1508, 1509, 1510, 1511, 1512, 1513, 1514, 1515, 1516, 1517, 1518, 1519, 1520, 1521, 1522, 1523, 1524, 1525, 1528, 1531, 1532, 1533])
set_option maxRecDepth 100000 in
def zB_254_39 : List Instr × List Nat := ([.aload 1, .aload 0, .iload 3, .sipush 1, .iadd, .iaload, .aload 0, .iload 3, .sipush 2, .iadd, .iaload, .aload 0, .iload 3, .sipush 3, .iadd, .iaload, .aload 0, .iload 3, .sipush 4, .iadd, .iaload, .aload 0, .iload 3, .sipush 5, .iadd, .iaload, .invokevirtual 117, .aload 2, .aload 0, .iload 3, .sipush 1, .iadd, .iaload, .aload 0, .iload 3, .sipush 2, .iadd, .iaload, .aload 0, .iload 3, .sipush 3, .iadd, .iaload, .aload 0, .iload 3, .sipush 4, .iadd, .iaload, .aload 0, .iload 3, .sipush 5, .iadd, .iaload, .invokevirtual 228, .if_icmp .eq 55, .sipush 0, .ireturn], [1533, 1534, 1535, 1536, 1537, 1538, 1539, 1540, 1541, 1542, 1543, 1544, 1545, 1546, 1547, 1548, 1549, 1550, 1551, 1552, 1553, 1554, 1555, 1556, 1557, 1558, 1559, 1562, 1563, 1564, 1565, 1566, 1567, 1568, 1569, 1570, 1571, 1572, 1573, 1574, 1575, 1576, 1577, 1578, 1579, 1580, 1581, 1582, 1583, 1584, 1585, 1586, 1587, 1588, 1591, 1594, 1595, 1596])
set_option maxRecDepth 100000 in
def zB_254_40 : List Instr × List Nat := ([.aload 1, .aload 0, .iload 3, .sipush 1, .iadd, .iaload, .aload 0, .iload 3, .sipush 2, .iadd, .iaload, .aload 0, .iload 3, .sipush 3, .iadd, .iaload, .invokevirtual 118, .aload 2, .aload 0, .iload 3, .sipush 1, .iadd, .iaload, .aload 0, .iload 3, .sipush 2, .iadd, .iaload, .aload 0, .iload 3, .sipush 3, .iadd, .iaload, .invokevirtual 232, .lcmp, .ifCond .eq 55, .sipush 0, .ireturn], [1596, 1597, 1598, 1599, 1600, 1601, 1602, 1603, 1604, 1605, 1606, 1607, 1608, 1609, 1610, 1611, 1612, 1615, 1616, 1617, 1618, 1619, 1620, 1621, 1622, 1623, 1624, 1625, 1626, 1627, 1628, 1629, 1630, 1631, 1634, 1635, 1638, 1639, 1640])
set_option maxRecDepth 100000 in
def zB_254_41 : List Instr × List Nat := ([.aload 1, .aload 0, .iload 3, .sipush 1, .iadd, .iaload, .aload 0, .iload 3, .sipush 2, .iadd, .iaload, .invokevirtual 119, .aload 2, .aload 0, .iload 3, .sipush 1, .iadd, .iaload, .aload 0, .iload 3, .sipush 2, .iadd, .iaload, .invokevirtual 233, .lcmp, .ifCond .eq 55, .sipush 0, .ireturn], [1640, 1641, 1642, 1643, 1644, 1645, 1646, 1647, 1648, 1649, 1650, 1651, 1654, 1655, 1656, 1657, 1658, 1659, 1660, 1661, 1662, 1663, 1664, 1665, 1668, 1669, 1672, 1673, 1674])
set_option maxRecDepth 100000 in
def zB_254_42 : List Instr × List Nat := ([.aload 1, .aload 0, .iload 3, .sipush 1, .iadd, .iaload, .aload 0, .iload 3, .sipush 2, .iadd, .iaload, .invokevirtual 120, .aload 2, .aload 0, .iload 3, .sipush 1, .iadd, .iaload, .aload 0, .iload 3, .sipush 2, .iadd, .iaload, .invokevirtual 234, .if_icmp .eq 55, .sipush 0, .ireturn], [1674, 1675, 1676, 1677, 1678, 1679, 1680, 1681, 1682, 1683, 1684, 1685, 1688, 1689, 1690, 1691, 1692, 1693, 1694, 1695, 1696, 1697, 1698, 1699, 1702, 1705, 1706, 1707])
set_option maxRecDepth 100000 in
def zB_254_43 : List Instr × List Nat := ([.aload 1, .aload 0, .iload 3, .sipush 1, .iadd, .iaload, .aload 0, .iload 3, .sipush 2, .iadd, .iaload, .aload 0, .iload 3, .sipush 3, .iadd, .iaload, .aload 0, .iload 3, .sipush 4, .iadd, .iaload, .invokevirtual 121, .aload 2, .aload 0, .iload 3, .sipush 1, .iadd, .iaload, .aload 0, .iload 3, .sipush 2, .iadd, .iaload, .aload 0, .iload 3, .sipush 3, .iadd, .iaload, .aload 0, .iload 3, .sipush 4, .iadd, .iaload, .invokevirtual 238, .if_icmp .eq 55, .sipush 0, .ireturn], [1707, 1708, 1709, 1710, 1711, 1712, 1713, 1714, 1715, 1716, 1717, 1718, 1719, 1720, 1721, 1722, 1723, 1724, 1725, 1726, 1727, 1728, 1731, 1732, 1733, 1734, 1735, 1736, 1737, 1738, 1739, 1740, 1741, 1742, 1743, 1744, 1745, 1746, 1747, 1748, 1749, 1750, 1751, 1752, 1755, 1758, 1759, 1760])
set_option maxRecDepth 100000 in
def zB_254_44 : List Instr × List Nat := ([.aload 1, .aload 0, .iload 3, .sipush 1, .iadd, .iaload, .invokevirtual 122, .aload 2, .aload 0, .iload 3, .sipush 1, .iadd, .iaload, .invokevirtual 239, .if_icmp .eq 55, .sipush 0, .ireturn], [1760, 1761, 1762, 1763, 1764, 1765, 1766, 1769, 1770, 1771, 1772, 1773, 1774, 1775, 1778, 1781, 1782, 1783])
set_option maxRecDepth 100000 in
def zB_254_45 : List Instr × List Nat := ([.aload 1, .aload 0, .iload 3, .sipush 1, .iadd, .iaload, .aload 0, .iload 3, .sipush 2, .iadd, .iaload, .aload 0, .iload 3, .sipush 3, .iadd, .iaload, .invokevirtual 123, .aload 2, .aload 0, .iload 3, .sipush 1, .iadd, .iaload, .aload 0, .iload 3, .sipush 2, .iadd, .iaload, .aload 0, .iload 3, .sipush 3, .iadd, .iaload, .invokevirtual 240, .if_icmp .eq 55, .sipush 0, .ireturn], [1783, 1784, 1785, 1786, 1787, 1788, 1789, 1790, 1791, 1792, 1793, 1794, 1795, 1796, 1797, 1798, 1799, 1802, 1803, 1804, 1805, 1806, 1807, 1808, 1809, 1810, 1811, 1812, 1813, 1814, 1815, 1816, 1817, 1818, 1821, 1824, 1825, 1826])
set_option maxRecDepth 100000 in
def zB_254_46 : List Instr × List Nat := ([.aload 1, .aload 0, .iload 3, .sipush 1, .iadd, .iaload, .invokevirtual 124, .aload 2, .aload 0, .iload 3, .sipush 1, .iadd, .iaload, .invokevirtual 241, .if_icmp .eq 55, .sipush 0, .ireturn], [1826, 1827, 1828, 1829, 1830, 1831, 1832, 1835, 1836, 1837, 1838, 1839, 1840, 1841, 1844, 1847, 1848, 1849])
set_option maxRecDepth 100000 in
def zB_254_47 : List Instr × List Nat := ([.aload 1, .aload 0, .iload 3, .sipush 1, .iadd, .iaload, .aload 0, .iload 3, .sipush 2, .iadd, .iaload, .aload 0, .iload 3, .sipush 3, .iadd, .iaload, .invokevirtual 125, .aload 2, .aload 0, .iload 3, .sipush 1, .iadd, .iaload, .aload 0, .iload 3, .sipush 2, .iadd, .iaload, .aload 0, .iload 3, .sipush 3, .iadd, .iaload, .invokevirtual 242, .if_icmp .eq 55, .sipush 0, .ireturn], [1849, 1850, 1851, 1852, 1853, 1854, 1855, 1856, 1857, 1858, 1859, 1860, 1861, 1862, 1863, 1864, 1865, 1868, 1869, 1870, 1871, 1872, 1873, 1874, 1875, 1876, 1877, 1878, 1879, 1880, 1881, 1882, 1883, 1884, 1887, 1890, 1891, 1892])
set_option maxRecDepth 100000 in
def zB_254_48 : List Instr × List Nat := ([.aload 1, .aload 0, .iload 3, .sipush 1, .iadd, .iaload, .aload 0, .iload 3, .sipush 2, .iadd, .iaload, .aload 0, .iload 3, .sipush 3, .iadd, .iaload, .invokevirtual 126, .aload 2, .aload 0, .iload 3, .sipush 1, .iadd, .iaload, .aload 0, .iload 3, .sipush 2, .iadd, .iaload, .aload 0, .iload 3, .sipush 3, .iadd, .iaload, .invokevirtual 243, .lcmp, .ifCond .eq 55, .sipush 0, .ireturn], [1892, 1893, 1894, 1895, 1896, 1897, 1898, 1899, 1900, 1901, 1902, 1903, 1904, 1905, 1906, 1907, 1908, 1911, 1912, 1913, 1914, 1915, 1916, 1917, 1918, 1919, 1920, 1921, 1922, 1923, 1924, 1925, 1926, 1927, 1930, 1931, 1934, 1935, 1936])
set_option maxRecDepth 100000 in
def zB_254_49 : List Instr × List Nat := ([.aload 1, .aload 0, .iload 3, .sipush 1, .iadd, .iaload, .invokevirtual 127, .aload 2, .aload 0, .iload 3, .sipush 1, .iadd, .iaload, .invokevirtual 245, .if_icmp .eq 55, .sipush 0, .ireturn], [1936, 1937, 1938, 1939, 1940, 1941, 1942, 1945, 1946, 1947, 1948, 1949, 1950, 1951, 1954, 1957, 1958, 1959])
set_option maxRecDepth 100000 in
def zB_254_50 : List Instr × List Nat := ([.aload 1, .aload 0, .iload 3, .sipush 1, .iadd, .iaload, .invokevirtual 128, .aload 2, .aload 0, .iload 3, .sipush 1, .iadd, .iaload, .invokevirtual 246, .if_icmp .eq 55, .sipush 0, .ireturn], [1959, 1960, 1961, 1962, 1963, 1964, 1965, 1968, 1969, 1970, 1971, 1972, 1973, 1974, 1977, 1980, 1981, 1982])
set_option maxRecDepth 100000 in
def zB_254_51 : List Instr × List Nat := ([.aload 1, .aload 0, .iload 3, .sipush 1, .iadd, .iaload, .aload 0, .iload 3, .sipush 2, .iadd, .iaload, .invokevirtual 129, .aload 2, .aload 0, .iload 3, .sipush 1, .iadd, .iaload, .aload 0, .iload 3, .sipush 2, .iadd, .iaload, .invokevirtual 247, .if_icmp .eq 55, .sipush 0, .ireturn], [1982, 1983, 1984, 1985, 1986, 1987, 1988, 1989, 1990, 1991, 1992, 1993, 1996, 1997, 1998, 1999, 2000, 2001, 2002, 2003, 2004, 2005, 2006, 2007, 2010, 2013, 2014, 2015])
set_option maxRecDepth 100000 in
def zB_254_52 : List Instr × List Nat := ([.aload 1, .invokevirtual 130, .aload 2, .invokevirtual 248, .if_icmp .eq 55, .sipush 0, .ireturn], [2015, 2016, 2019, 2020, 2023, 2026, 2027, 2028])
set_option maxRecDepth 100000 in
def zB_254_53 : List Instr × List Nat := ([.aload 1, .invokevirtual 131, .aload 2, .invokevirtual 249, .if_icmp .eq 55, .sipush 0, .ireturn], [2028, 2029, 2032, 2033, 2036, 2039, 2040, 2041])
set_option maxRecDepth 100000 in
def zB_254_54 : List Instr × List Nat := ([.aload 1, .aload 0, .iload 3, .sipush 1, .iadd, .iaload, .invokevirtual 132, .aload 2, .aload 0, .iload 3, .sipush 1, .iadd, .iaload, .invokevirtual 250, .if_icmp .eq 55, .sipush 0, .ireturn], [2041, 2042, 2043, 2044, 2045, 2046, 2047, 2050, 2051, 2052, 2053, 2054, 2055, 2056, 2059, 2062, 2063, 2064])
set_option maxRecDepth 100000 in
def zB_254_55 : List Instr × List Nat := ([.iinc 3 8, .goto 1], [2064, 2067, 2070])
set_option maxRecDepth 100000 in
def zB_254_56 : List Instr × List Nat := ([.sipush 1, .ireturn], [2070, 2071, 2072])
set_option maxRecDepth 100000 in
def zB_254 : List (List Instr × List Nat) := [zB_254_0, zB_254_1, zB_254_2, zB_254_3, zB_254_4, zB_254_5, zB_254_6, zB_254_7, zB_254_8, zB_254_9, zB_254_10, zB_254_11, zB_254_12, zB_254_13, zB_254_14, zB_254_15, zB_254_16, zB_254_17, zB_254_18, zB_254_19, zB_254_20, zB_254_21, zB_254_22, zB_254_23, zB_254_24, zB_254_25, zB_254_26, zB_254_27, zB_254_28, zB_254_29, zB_254_30, zB_254_31, zB_254_32, zB_254_33, zB_254_34, zB_254_35, zB_254_36, zB_254_37, zB_254_38, zB_254_39, zB_254_40, zB_254_41, zB_254_42, zB_254_43, zB_254_44, zB_254_45, zB_254_46, zB_254_47, zB_254_48, zB_254_49, zB_254_50, zB_254_51, zB_254_52, zB_254_53, zB_254_54, zB_254_55, zB_254_56]
set_option maxRecDepth 100000 in
def zMT : List (List (List Instr × List Nat) × Nat) := [(zB_0, 91), (zB_1, 58), (zB_2, 43), (zB_3, 30), (zB_4, 64), (zB_5, 55), (zB_6, 153), (zB_7, 65), (zB_8, 26), (zB_9, 39), (zB_10, 75), (zB_11, 12), (zB_12, 92), (zB_13, 37), (zB_14, 107), (zB_15, 65), (zB_16, 55), (zB_17, 68), (zB_18, 43), (zB_19, 93), (zB_20, 54), (zB_21, 118), (zB_22, 15), (zB_23, 45), (zB_24, 106), (zB_25, 125), (zB_26, 94), (zB_27, 55), (zB_28, 74), (zB_29, 62), (zB_30, 51), (zB_31, 48), (zB_32, 61), (zB_33, 41), (zB_34, 68), (zB_35, 69), (zB_36, 48), (zB_37, 63), (zB_38, 18), (zB_39, 76), (zB_40, 67), (zB_41, 54), (zB_42, 57), (zB_43, 54), (zB_44, 40), (zB_45, 74), (zB_46, 58), (zB_47, 56), (zB_48, 54), (zB_49, 87), (zB_50, 124), (zB_51, 77), (zB_52, 58), (zB_53, 17), (zB_54, 48), (zB_55, 36), (zB_56, 16), (zB_57, 85), (zB_58, 30), (zB_59, 86), (zB_60, 76), (zB_61, 18), (zB_62, 34), (zB_63, 14), (zB_64, 29), (zB_65, 15), (zB_66, 25), (zB_67, 36), (zB_68, 50), (zB_69, 57), (zB_70, 51), (zB_71, 107), (zB_72, 18), (zB_73, 54), (zB_74, 60), (zB_75, 98), (zB_76, 69), (zB_77, 57), (zB_78, 35), (zB_79, 74), (zB_80, 53), (zB_81, 32), (zB_82, 18), (zB_83, 54), (zB_84, 43), (zB_85, 22), (zB_86, 65), (zB_87, 87), (zB_88, 39), (zB_89, 179), (zB_90, 91), (zB_91, 30), (zB_92, 82), (zB_93, 27), (zB_94, 41), (zB_95, 120), (zB_96, 63), (zB_97, 38), (zB_98, 111), (zB_99, 87), (zB_100, 62), (zB_101, 76), (zB_102, 61), (zB_103, 24), (zB_104, 137), (zB_105, 64), (zB_106, 61), (zB_107, 75), (zB_108, 73), (zB_109, 62), (zB_110, 57), (zB_111, 33), (zB_112, 42), (zB_113, 32), (zB_114, 12), (zB_115, 130), (zB_116, 129), (zB_117, 127), (zB_118, 133), (zB_119, 123), (zB_120, 54), (zB_121, 59), (zB_122, 23), (zB_123, 56), (zB_124, 52), (zB_125, 68), (zB_126, 32), (zB_127, 66), (zB_128, 39), (zB_129, 53), (zB_130, 5), (zB_131, 5), (zB_132, 115), (zB_133, 16), (zB_134, 7), (zB_135, 37), (zB_136, 18), (zB_137, 47), (zB_138, 63), (zB_139, 19), (zB_140, 38), (zB_141, 66), (zB_142, 14), (zB_143, 15), (zB_144, 21), (zB_145, 19), (zB_146, 7), (zB_147, 8), (zB_148, 10), (zB_149, 9), (zB_150, 16), (zB_151, 8), (zB_152, 18), (zB_153, 18), (zB_154, 91), (zB_155, 52), (zB_156, 59), (zB_157, 60), (zB_158, 61), (zB_159, 34), (zB_160, 33), (zB_161, 35), (zB_162, 139), (zB_163, 147), (zB_164, 50), (zB_165, 195), (zB_166, 11), (zB_167, 162), (zB_168, 46), (zB_169, 41), (zB_170, 67), (zB_171, 183), (zB_172, 44), (zB_173, 90), (zB_174, 7), (zB_175, 7), (zB_176, 95), (zB_177, 43), (zB_178, 31), (zB_179, 77), (zB_180, 66), (zB_181, 54), (zB_182, 41), (zB_183, 56), (zB_184, 18), (zB_185, 67), (zB_186, 147), (zB_187, 48), (zB_188, 29), (zB_189, 67), (zB_190, 172), (zB_191, 92), (zB_192, 70), (zB_193, 66), (zB_194, 133), (zB_195, 174), (zB_196, 62), (zB_197, 69), (zB_198, 126), (zB_199, 26), (zB_200, 347), (zB_201, 278), (zB_202, 11), (zB_203, 114), (zB_204, 35), (zB_205, 30), (zB_206, 99), (zB_207, 31), (zB_208, 96), (zB_209, 124), (zB_210, 41), (zB_211, 50), (zB_212, 176), (zB_213, 107), (zB_214, 60), (zB_215, 131), (zB_216, 56), (zB_217, 13), (zB_218, 54), (zB_219, 91), (zB_220, 122), (zB_221, 20), (zB_222, 52), (zB_223, 26), (zB_224, 94), (zB_225, 227), (zB_226, 35), (zB_227, 131), (zB_228, 125), (zB_229, 18), (zB_230, 139), (zB_231, 156), (zB_232, 82), (zB_233, 141), (zB_234, 81), (zB_235, 55), (zB_236, 234), (zB_237, 36), (zB_238, 104), (zB_239, 20), (zB_240, 85), (zB_241, 36), (zB_242, 96), (zB_243, 102), (zB_244, 14), (zB_245, 116), (zB_246, 46), (zB_247, 47), (zB_248, 5), (zB_249, 5), (zB_250, 91), (zB_251, 53), (zB_252, 23), (zB_253, 21), (zB_254, 2072)]
def zM (mt : Nat) : List (List Instr × List Nat) × Nat := (zMT[mt]?).getD ([], 0)
def zblk (mt b : Nat) : List Instr := (((zM mt).1[b]?).getD ([], [(zM mt).2])).1
def zpcs (mt b : Nat) : List Nat := (((zM mt).1[b]?).getD ([], [(zM mt).2])).2
set_option maxRecDepth 100000 in
def zmTT : List (MethodName × ByteArray × Nat × Option FieldType × Nat × Nat × Nat) := [
  (yX0_read, cX0_read, 4, some .int, 2, 0, 2),
  (yX0_goesOn, cX0_goesOn, 2, some .boolean, 1, 0, 1),
  (yX0_goesOnWithLetter, cX0_goesOnWithLetter, 2, some .boolean, 1, 0, 0),
  (yX0_goesOnWithParting, cX0_goesOnWithParting, 1, some .boolean, 0, 0, 0),
  (yX0_goesOnWithDigit, cX0_goesOnWithDigit, 2, some .boolean, 1, 0, 0),
  (yX0_letterOf, cX0_letterOf, 1, some .int, 1, 0, 0),
  (yX0_brokenBy, cX0_brokenBy, 6, some .int, 4, 0, 0),
  (yX1_add, cX1_add, 5, some .int, 4, 1, 0),
  (yX1_has, cX1_has, 3, some .boolean, 2, 1, 0),
  (yX1_isHeld, cX1_isHeld, 4, some .boolean, 2, 1, 1),
  (yX1_markYears, cX1_markYears, 3, none, 1, 1, 1),
  (yX1_countGaps, cX1_countGaps, 2, some .int, 1, 1, 3),
  (yX1_findGap, cX1_findGap, 6, some .boolean, 2, 1, 2),
  (yX1_keepGap, cX1_keepGap, 4, none, 3, 1, 0),
  (yX1_countQuarrels, cX1_countQuarrels, 5, some .int, 1, 1, 0),
  (yX1_stands, cX1_stands, 6, some .boolean, 3, 1, 2),
  (yX1_firstHaving, cX1_firstHaving, 5, some .int, 3, 1, 1),
  (yX1_nextAbove, cX1_nextAbove, 5, some .int, 2, 1, 0),
  (yX1_isOpen, cX1_isOpen, 4, some .boolean, 3, 1, 2),
  (yX1_isHeldAround, cX1_isHeldAround, 6, some .boolean, 2, 1, 0),
  (yX1_isHeldByOther, cX1_isHeldByOther, 5, some .boolean, 3, 1, 1),
  (yX2_read, cX2_read, 5, none, 2, 2, 2),
  (yX2_give, cX2_give, 3, none, 2, 2, 0),
  (yX2_sumOfTrials, cX2_sumOfTrials, 3, some .int, 0, 2, 0),
  (yX2_findBest, cX2_findBest, 2, none, 0, 2, 3),
  (yX2_seatOneMore, cX2_seatOneMore, 6, none, 1, 2, 2),
  (yX2_lookFrom, cX2_lookFrom, 7, none, 2, 2, 1),
  (yX2_nearest, cX2_nearest, 4, some .int, 1, 2, 0),
  (yX2_payFor, cX2_payFor, 5, none, 2, 2, 0),
  (yX2_cost, cX2_cost, 6, some .long, 2, 2, 0),
  (yX2_findCalm, cX2_findCalm, 5, none, 0, 2, 2),
  (yX2_greatestOutside, cX2_greatestOutside, 4, some .int, 1, 2, 1),
  (yX2_dearestFree, cX2_dearestFree, 5, some .int, 1, 2, 0),
  (yX2_isAhead, cX2_isAhead, 3, some .boolean, 2, 2, 0),
  (yX2_accepts, cX2_accepts, 4, some .boolean, 1, 2, 1),
  (yX2_isQuarrel, cX2_isQuarrel, 4, some .boolean, 2, 2, 1),
  (yX2_countQuarrels, cX2_countQuarrels, 4, some .int, 0, 2, 2),
  (yX2_nthQuarrel, cX2_nthQuarrel, 5, some .int, 1, 2, 2),
  (yX3_knows, cX3_knows, 2, some .boolean, 1, 3, 0),
  (yX3_add, cX3_add, 5, some .int, 4, 3, 0),
  (yX3_sharesDay, cX3_sharesDay, 6, some .boolean, 4, 3, 0),
  (yX3_onDay, cX3_onDay, 5, some .int, 3, 3, 0),
  (yX3_withDays, cX3_withDays, 5, some .int, 3, 3, 0),
  (yX4_add, cX4_add, 4, some .int, 3, 4, 0),
  (yX4_lookedOn, cX4_lookedOn, 4, some .boolean, 2, 4, 0),
  (yX4_firstDayWith, cX4_firstDayWith, 5, some .int, 2, 4, 0),
  (yX4_dayBehindLookAhead, cX4_dayBehindLookAhead, 5, some .int, 2, 4, 1),
  (yX4_countWrong, cX4_countWrong, 4, some .int, 1, 4, 1),
  (yX4_seenAhead, cX4_seenAhead, 5, some .int, 2, 4, 0),
  (yX5_readHands, cX5_readHands, 4, none, 2, 5, 1),
  (yX5_want, cX5_want, 7, some .boolean, 3, 5, 1),
  (yX5_addGet, cX5_addGet, 5, none, 2, 5, 0),
  (yX5_fewestDays, cX5_fewestDays, 6, some .int, 1, 5, 2),
  (yX5_daysFor, cX5_daysFor, 2, some .int, 2, 5, 0),
  (yX5_mostReadyAfter, cX5_mostReadyAfter, 4, some .int, 1, 5, 1),
  (yX5_readyAfter, cX5_readyAfter, 4, some .int, 1, 5, 0),
  (yX6_lay, cX6_lay, 4, none, 3, 6, 2),
  (yX6_layOn, cX6_layOn, 8, none, 5, 6, 1),
  (yX6_rise, cX6_rise, 2, some .int, 2, 6, 0),
  (yX6_findBest, cX6_findBest, 5, some .boolean, 2, 6, 3),
  (yX6_growsLike, cX6_growsLike, 7, some .boolean, 3, 6, 2),
  (yX7_knows, cX7_knows, 2, some .boolean, 1, 7, 0),
  (yX7_add, cX7_add, 2, some .int, 1, 7, 0),
  (yX7_hadMakers, cX7_hadMakers, 2, some .int, 1, 7, 0),
  (yX7_mayHave, cX7_mayHave, 4, some .boolean, 3, 7, 1),
  (yX8_knows, cX8_knows, 2, some .boolean, 1, 8, 0),
  (yX8_renew, cX8_renew, 4, none, 3, 8, 1),
  (yX8_cutTo, cX8_cutTo, 2, some .int, 2, 8, 0),
  (yX8_missing, cX8_missing, 4, some .int, 3, 8, 0),
  (yX8_take, cX8_take, 6, some .int, 4, 8, 1),
  (yX8_takenWithin, cX8_takenWithin, 5, some .boolean, 3, 8, 0),
  (yX8_longestRun, cX8_longestRun, 10, some .int, 4, 8, 1),
  (yX9_knows, cX9_knows, 2, some .boolean, 1, 9, 0),
  (yX9_add, cX9_add, 4, some .int, 3, 9, 0),
  (yX9_countBetween, cX9_countBetween, 6, some .int, 3, 9, 0),
  (yX9_weigh, cX9_weigh, 5, none, 2, 9, 3),
  (yX9_addFree, cX9_addFree, 4, none, 1, 9, 0),
  (yX9_choose, cX9_choose, 3, none, 0, 9, 2),
  (yX9_riskOf, cX9_riskOf, 2, some .int, 1, 9, 1),
  (yX9_planeOf, cX9_planeOf, 4, some .int, 1, 9, 0),
  (yX9_countDaysOver, cX9_countDaysOver, 4, some .int, 1, 9, 4),
  (yX9_isFirstOfDay, cX9_isFirstOfDay, 3, some .boolean, 1, 9, 0),
  (yX10_knows, cX10_knows, 2, some .boolean, 1, 10, 0),
  (yX10_add, cX10_add, 4, some .int, 3, 10, 0),
  (yX11_violin, cX11_violin, 4, some .int, 3, 11, 1),
  (yX11_player, cX11_player, 2, some .int, 1, 11, 1),
  (yX11_trial, cX11_trial, 5, some .int, 3, 11, 1),
  (yX11_had, cX11_had, 5, some .int, 3, 11, 1),
  (yX11_may, cX11_may, 3, some .int, 2, 11, 3),
  (yX11_ofViolin, cX11_ofViolin, 3, some .int, 2, 11, 1),
  (yX11_ofPlayer, cX11_ofPlayer, 3, some .int, 2, 11, 4),
  (yX11_sum, cX11_sum, 1, some .int, 0, 11, 4),
  (yX11_lent, cX11_lent, 4, some .int, 2, 11, 4),
  (yX11_quarrels, cX11_quarrels, 5, some .int, 3, 11, 4),
  (yX11_quarrel, cX11_quarrel, 6, some .int, 4, 11, 4),
  (yX11_lend, cX11_lend, 6, some .int, 4, 11, 3),
  (yX11_back, cX11_back, 4, some .int, 2, 11, 1),
  (yX11_warn, cX11_warn, 3, some .int, 2, 11, 1),
  (yX11_loan, cX11_loan, 3, some .int, 2, 11, 2),
  (yX11_on, cX11_on, 4, some .int, 3, 11, 1),
  (yX11_look, cX11_look, 4, some .int, 3, 11, 1),
  (yX11_born, cX11_born, 5, some .int, 3, 11, 2),
  (yX11_blame, cX11_blame, 4, some .int, 2, 11, 2),
  (yX11_wrongs, cX11_wrongs, 2, some .int, 1, 11, 2),
  (yX11_days, cX11_days, 7, some .int, 5, 11, 3),
  (yX11_holder, cX11_holder, 5, some .int, 4, 11, 1),
  (yX11_gaps, cX11_gaps, 3, some .int, 2, 11, 4),
  (yX11_gap, cX11_gap, 4, some .int, 3, 11, 3),
  (yX11_claim, cX11_claim, 4, some .int, 3, 11, 3),
  (yX11_trip, cX11_trip, 4, some .int, 3, 11, 1),
  (yX11_fix, cX11_fix, 4, some .int, 2, 11, 1),
  (yX11_spread, cX11_spread, 2, some .int, 1, 11, 4),
  (yX11_plane, cX11_plane, 2, some .int, 1, 11, 4),
  (yX11_limit, cX11_limit, 3, some .int, 1, 11, 1),
  (yX11_over, cX11_over, 1, some .int, 0, 11, 5),
  (yX11_damp, cX11_damp, 9, some .int, 7, 11, 2),
  (yX11_rings, cX11_rings, 7, some .int, 5, 11, 2),
  (yX11_oak, cX11_oak, 7, some .int, 5, 11, 2),
  (yX11_laid, cX11_laid, 5, some .long, 3, 11, 3),
  (yX11_best, cX11_best, 3, some .long, 2, 11, 4),
  (yX11_oneTree, cX11_oneTree, 3, some .int, 2, 11, 3),
  (yX11_contract, cX11_contract, 7, some .int, 4, 11, 3),
  (yX11_clause, cX11_clause, 2, some .int, 1, 11, 1),
  (yX11_sheet, cX11_sheet, 4, some .int, 3, 11, 2),
  (yX11_lose, cX11_lose, 3, some .int, 1, 11, 2),
  (yX11_put, cX11_put, 5, some .int, 3, 11, 1),
  (yX11_at, cX11_at, 5, some .long, 3, 11, 3),
  (yX11_tell, cX11_tell, 2, some .int, 1, 11, 4),
  (yX11_praise, cX11_praise, 2, some .int, 1, 11, 2),
  (yX11_as, cX11_as, 3, some .int, 2, 11, 1),
  (yX11_trace, cX11_trace, 1, some .int, 0, 11, 0),
  (yX11_fault, cX11_fault, 1, some .int, 0, 11, 0),
  (yX11_many, cX11_many, 2, some .int, 1, 11, 0),
  (yX11_within, cX11_within, 3, some .boolean, 3, 11, 0),
  (yX11_isLane, cX11_isLane, 1, some .boolean, 1, 11, 1),
  (yX11_timesIn, cX11_timesIn, 5, some .int, 3, 11, 0),
  (yX11_met, cX11_met, 2, some .int, 1, 11, 0),
  (yX11_takeCells, cX11_takeCells, 5, some .int, 4, 11, 2),
  (yX11_takeLending, cX11_takeLending, 5, some .int, 3, 11, 3),
  (yX11_mayHave, cX11_mayHave, 3, some .boolean, 2, 11, 2),
  (yX11_mayHaveSet, cX11_mayHaveSet, 4, some .int, 1, 11, 3),
  (yX11_broken, cX11_broken, 3, some .int, 1, 11, 1),
  (yX11_leave, cX11_leave, 2, none, 1, 11, 0),
  (yX11_tellPlain, cX11_tellPlain, 2, some .int, 1, 11, 1),
  (yX11_tellOld, cX11_tellOld, 2, some .int, 1, 11, 2),
  (yX11_tellFamed, cX11_tellFamed, 3, some .int, 1, 11, 3),
  (yX11_praiseLent, cX11_praiseLent, 2, some .int, 1, 11, 1),
  (yX11_praiseFamed, cX11_praiseFamed, 1, some .int, 0, 11, 1),
  (yX12_fails, cX12_fails, 2, some .int, 1, 12, 0),
  (yX12_lost, cX12_lost, 2, some .long, 1, 12, 0),
  (yX12_within, cX12_within, 3, some .boolean, 3, 12, 0),
  (yX12_isDay, cX12_isDay, 1, some .boolean, 1, 12, 1),
  (yX12_isViolin, cX12_isViolin, 2, some .boolean, 1, 12, 0),
  (yX12_isPlayer, cX12_isPlayer, 2, some .boolean, 1, 12, 0),
  (yX12_violin, cX12_violin, 4, some .int, 3, 12, 1),
  (yX12_player, cX12_player, 2, some .int, 1, 12, 1),
  (yX12_trial, cX12_trial, 5, some .int, 3, 12, 1),
  (yX12_had, cX12_had, 5, some .int, 3, 12, 1),
  (yX12_hasHad, cX12_hasHad, 4, some .boolean, 2, 12, 0),
  (yX12_mayHave, cX12_mayHave, 3, some .boolean, 2, 12, 1),
  (yX12_may, cX12_may, 3, some .int, 2, 12, 2),
  (yX12_countOf, cX12_countOf, 5, some .int, 3, 12, 0),
  (yX12_ofViolin, cX12_ofViolin, 3, some .int, 2, 12, 1),
  (yX12_ofPlayer, cX12_ofPlayer, 5, some .int, 2, 12, 2),
  (yX12_findMays, cX12_findMays, 3, none, 0, 12, 2),
  (yX12_findMost, cX12_findMost, 6, none, 0, 12, 3),
  (yX12_sum, cX12_sum, 1, some .int, 0, 12, 4),
  (yX12_findBest, cX12_findBest, 5, none, 0, 12, 4),
  (yX12_likes, cX12_likes, 5, some .boolean, 3, 12, 0),
  (yX12_isAhead, cX12_isAhead, 3, some .boolean, 2, 12, 0),
  (yX12_nextOf, cX12_nextOf, 4, some .int, 1, 12, 1),
  (yX12_findCalm, cX12_findCalm, 5, none, 0, 12, 3),
  (yX12_lent, cX12_lent, 3, some .int, 2, 12, 5),
  (yX12_against, cX12_against, 5, some .int, 4, 12, 1),
  (yX12_isSheet, cX12_isSheet, 1, some .boolean, 1, 12, 1),
  (yX12_isLane, cX12_isLane, 1, some .boolean, 1, 12, 1),
  (yX12_isRow, cX12_isRow, 6, some .boolean, 2, 12, 1),
  (yX12_isLending, cX12_isLending, 2, some .boolean, 0, 12, 2),
  (yX12_holderIn, cX12_holderIn, 3, some .int, 1, 12, 0),
  (yX12_doQuarrel, cX12_doQuarrel, 4, some .boolean, 2, 12, 2),
  (yX12_quarrelAt, cX12_quarrelAt, 5, some .int, 1, 12, 3),
  (yX12_againstRow, cX12_againstRow, 5, some .int, 3, 12, 3),
  (yX12_quarrels, cX12_quarrels, 5, some .int, 3, 12, 4),
  (yX12_quarrel, cX12_quarrel, 7, some .int, 4, 12, 4),
  (yX12_isLoan, cX12_isLoan, 2, some .boolean, 1, 12, 0),
  (yX12_sharesDay, cX12_sharesDay, 6, some .boolean, 4, 12, 0),
  (yX12_lend, cX12_lend, 5, some .int, 4, 12, 2),
  (yX12_back, cX12_back, 4, some .int, 2, 12, 1),
  (yX12_warn, cX12_warn, 3, some .int, 2, 12, 2),
  (yX12_tripsIn, cX12_tripsIn, 4, some .int, 1, 12, 1),
  (yX12_broken, cX12_broken, 3, some .int, 1, 12, 2),
  (yX12_loan, cX12_loan, 3, some .int, 2, 12, 3),
  (yX12_loanOn, cX12_loanOn, 5, some .int, 3, 12, 1),
  (yX12_on, cX12_on, 4, some .int, 3, 12, 2),
  (yX12_look, cX12_look, 5, some .int, 3, 12, 2),
  (yX12_isBorn, cX12_isBorn, 5, some .boolean, 2, 12, 0),
  (yX12_born, cX12_born, 4, some .int, 3, 12, 1),
  (yX12_blame, cX12_blame, 4, some .int, 2, 12, 2),
  (yX12_wrongs, cX12_wrongs, 6, some .int, 1, 12, 1),
  (yX12_sizeOf, cX12_sizeOf, 3, some .int, 1, 12, 0),
  (yX12_fewestDays, cX12_fewestDays, 11, some .int, 2, 12, 1),
  (yX12_days, cX12_days, 12, some .int, 5, 12, 2),
  (yX12_isYear, cX12_isYear, 1, some .boolean, 1, 12, 1),
  (yX12_holder, cX12_holder, 5, some .int, 4, 12, 2),
  (yX12_hasYear, cX12_hasYear, 4, some .boolean, 3, 12, 1),
  (yX12_isHad, cX12_isHad, 4, some .boolean, 2, 12, 2),
  (yX12_findYears, cX12_findYears, 3, none, 1, 12, 0),
  (yX12_isInGap, cX12_isInGap, 3, some .boolean, 2, 12, 3),
  (yX12_gapsOf, cX12_gapsOf, 5, some .int, 2, 12, 4),
  (yX12_quarrelsOf, cX12_quarrelsOf, 6, some .int, 1, 12, 0),
  (yX12_gaps, cX12_gaps, 3, some .int, 2, 12, 5),
  (yX12_gap, cX12_gap, 4, some .int, 3, 12, 5),
  (yX12_doesStand, cX12_doesStand, 7, some .boolean, 3, 12, 3),
  (yX12_isOpen, cX12_isOpen, 7, some .boolean, 3, 12, 4),
  (yX12_claim, cX12_claim, 4, some .int, 3, 12, 5),
  (yX12_trip, cX12_trip, 5, some .int, 3, 12, 2),
  (yX12_fix, cX12_fix, 4, some .int, 2, 12, 1),
  (yX12_planeIn, cX12_planeIn, 3, some .int, 2, 12, 0),
  (yX12_isWay, cX12_isWay, 3, some .boolean, 1, 12, 1),
  (yX12_riskOf, cX12_riskOf, 6, some .int, 1, 12, 1),
  (yX12_findSpread, cX12_findSpread, 4, none, 1, 12, 2),
  (yX12_spread, cX12_spread, 2, some .int, 1, 12, 3),
  (yX12_plane, cX12_plane, 3, some .int, 1, 12, 3),
  (yX12_limit, cX12_limit, 3, some .int, 1, 12, 1),
  (yX12_over, cX12_over, 5, some .int, 0, 12, 3),
  (yX12_damp, cX12_damp, 15, some .int, 7, 12, 2),
  (yX12_areWidths, cX12_areWidths, 4, some .boolean, 2, 12, 1),
  (yX12_rings, cX12_rings, 9, some .int, 5, 12, 2),
  (yX12_oak, cX12_oak, 9, some .int, 5, 12, 2),
  (yX12_signOf, cX12_signOf, 1, some .int, 1, 12, 0),
  (yX12_layAt, cX12_layAt, 6, none, 2, 12, 1),
  (yX12_layTogether, cX12_layTogether, 7, none, 3, 12, 1),
  (yX12_laid, cX12_laid, 4, some .long, 3, 12, 2),
  (yX12_best, cX12_best, 7, some .long, 2, 12, 2),
  (yX12_oneTree, cX12_oneTree, 4, some .int, 2, 12, 2),
  (yX12_letterOf, cX12_letterOf, 1, some .int, 1, 12, 0),
  (yX12_faultOf, cX12_faultOf, 8, some .int, 2, 12, 1),
  (yX12_clauseMany, cX12_clauseMany, 3, some .int, 0, 12, 0),
  (yX12_contract, cX12_contract, 8, some .int, 4, 12, 2),
  (yX12_clause, cX12_clause, 2, some .int, 1, 12, 1),
  (yX12_sheet, cX12_sheet, 5, some .int, 3, 12, 2),
  (yX12_lose, cX12_lose, 3, some .int, 1, 12, 2),
  (yX12_put, cX12_put, 4, some .int, 3, 12, 2),
  (yX12_at, cX12_at, 4, some .long, 3, 12, 2),
  (yX12_begins, cX12_begins, 2, none, 1, 12, 0),
  (yX12_tell, cX12_tell, 2, some .int, 1, 12, 1),
  (yX12_praise, cX12_praise, 2, some .int, 1, 12, 1),
  (yX12_as, cX12_as, 3, some .int, 2, 12, 1),
  (yX12_trace, cX12_trace, 1, some .int, 0, 12, 0),
  (yX12_fault, cX12_fault, 1, some .int, 0, 12, 0),
  (yX12_many, cX12_many, 2, some .int, 1, 12, 1),
  (yJ6_bitCount_0f7a4, cJ6_bitCount_0f7a4, 1, some .int, 1, 14, 0),
  (yJ7_fill_d0a16, cJ7_fill_d0a16, 5, none, 2, 16, 0),
  (yJ7_fill_53178, cJ7_fill_53178, 4, none, 2, 16, 0),
  (yL_law, cL_law, 4, some .boolean, 1, 13, 6)]
def zmT (mt : Nat) : MethodName × ByteArray × Nat × Option FieldType × Nat × Nat × Nat := (zmTT[mt]?).getD (yL_law, cL_law, 0, none, 0, 99, 0)
set_option maxRecDepth 100000 in
def zstT : List Bool := [false, false, false, false, false, true, false, false, false, false, false, false, false, false, false, false, false, false, false, false, false, false, false, false, false, false, false, false, false, false, false, false, false, false, false, false, false, false, false, false, false, false, false, false, false, false, false, false, false, false, false, false, false, true, false, false, false, false, true, false, false, false, false, false, false, false, false, true, false, false, false, false, false, false, false, false, false, false, false, false, false, false, false, false, false, false, false, false, false, false, false, false, false, false, false, false, false, false, false, false, false, false, false, false, false, false, false, false, false, false, false, false, false, false, false, false, false, false, false, false, false, false, false, false, false, false, false, false, false, false, false, false, false, true, true, true, false, false, false, false, false, false, false, false, false, false, false, false, false, false, true, true, false, false, false, false, false, false, false, false, false, true, false, false, false, false, false, false, false, false, false, false, false, false, true, true, false, false, false, false, false, false, false, false, false, false, false, false, false, false, false, false, false, false, false, false, false, false, false, true, false, false, true, false, false, false, false, false, false, false, false, false, false, false, false, false, false, false, false, false, false, false, false, false, false, false, false, false, false, true, false, false, false, false, false, true, false, false, false, false, false, false, false, false, false, false, false, false, false, false, false, true, true, true, false]
def zst? (k : Nat) : Bool := (zstT[k]?).getD false
set_option maxRecDepth 100000 in
def zfkT : List (Option Nat) := [some 13, none, some 14, none, none, none, none, none, none, none, none, none, none, none, none, none, none, none, none, none, none, none, none, none, none, none, none, none, none, none, none, none, none, none, none, none, none, none, none, none, none, none, none, none, none, none, none, none, none, none, none, none, none, none, none, none, none, none, none, none, none, none, none, none, some 15, some 16, some 17, some 18, none, some 19, none, none, none, none, none, none, none, none, none, none, none, none, none, none, none, none, none, none, none, none, none, none, none, none, none, none, none, none, none, none, none, none, none, none, none, none, none, none, none, none, none, none, none, none, none, none, none, none, none, none, none, none, none, none, none, none, none, none, none, none, some 20, some 21, some 32, some 33, some 34, some 35, some 36, some 37, some 38, none, none, none, none, none, none, none, none, none, none, none, none, none, none, none, none, none, none, none, none, none, none, none, none, none, none, none, none, none, none, none, none, none, none, none, none, none, none, none, none, none, none, none, none, none, none, none, none, none, none, none, none, none, some 39, some 40, some 41, some 42, some 43, none, none, none, none, none, none, none, none, none, none, none, none, none, none, none, none, none, none, none, none, none, none, none, none, none, none, none, none, none, none, none, none, none, none, none, none, none, none, none, none, none, none, none, none, none, none, none, none, none, none, none, none, none, none, none, none, none, none, none, some 44, some 45, some 46, none, none, none, none, none, none, none, none, none, none, none, none, none, none, none, none, none, none, none, none, none, none, none, none, none, none, none, none, none, none, none, none, none, none, none, none, none, none, none, none, none, none, none, none, none, none, none, none, none, none, none, none, none, none, none, none, none, none, none, none, none, some 47, some 48, none, some 49, none, none, none, none, none, none, none, none, none, none, none, none, none, none, none, none, none, none, none, none, none, none, none, none, none, none, none, none, none, none, none, none, none, none, none, none, none, none, none, none, none, none, none, none, none, none, none, none, none, none, none, none, none, none, none, none, none, none, none, none, some 50, none, none, none, none, none, none, none, none, none, none, none, none, none, none, none, none, none, none, none, none, none, none, none, none, none, none, none, none, none, none, none, none, none, none, none, none, none, none, none, none, none, none, none, none, none, none, none, none, none, none, none, none, none, none, none, none, none, none, none, none, none, none, none, some 51, some 52, some 53, some 54, none, none, none, none, none, none, none, none, none, none, none, none, none, none, none, none, none, none, none, none, none, none, none, none, none, none, none, none, none, none, none, none, none, none, none, none, none, none, none, none, none, none, none, none, none, none, none, none, none, none, none, none, none, none, none, none, none, none, none, none, some 65, some 66, some 67, some 72, none, none, none, none, none, none, none, none, none, none, none, none, none, none, none, none, none, none, none, none, none, none, none, none, none, none, none, none, none, none, none, none, none, none, none, none, none, none, none, none, none, none, none, none, none, none, none, none, none, none, none, none, none, none, none, none, none, none, none, none, some 73, some 74, some 75, none, none, some 76, none, none, some 77, none, none, none, none, none, none, none, none, none, none, none, none, none, none, none, none, none, none, none, none, none, none, none, none, none, none, none, none, none, none, none, none, none, none, none, none, none, none, none, none, none, none, none, none, none, none, none, none, none, none, none, none, none, none, none, some 78, some 79, some 80, some 81, some 82, none, none, none, none, none, none, none, none, none, none, none, none, none, none, none, none, none, none, none, none, none, none, none, none, none, none, none, none, none, none, none, none, none, none, none, none, none, none, none, none, none, none, none, none, none, none, none, none, none, none, none, none, none, none, none, none, none, none, none, some 10, some 7, some 3, some 4, some 1, some 9, some 8, some 6, some 0, some 2, some 5, none, none, none, none, none, none, none, none, none, none, none, none, none, none, none, none, none, none, none, none, none, none, none, none, none, none, none, none, none, none, none, none, none, none, none, none, none, none, none, none, none, none, none, none, none, none, none, none, none, none, none, none, none, none, none, none, some 93, some 94, some 95, none, some 96, some 97, some 98, some 99, some 100, some 101, some 102, some 103, some 104, some 105, some 106, some 107, none, some 108, some 109, some 110, some 111, some 112, none, some 113, some 114, some 115, none, none, some 116, none, some 117, some 118, some 119, none, some 120, some 121, some 122, some 123, none, none, none, none, none, some 124, some 125, some 126, none, some 127, none, none, none, some 128, some 129, none, some 130, none, none, none, some 131, some 132, none]
def zfk (q : Nat) : Option Nat := (zfkT[q]?).getD none
def zNf (k : Nat) : Nat := ([6, 9, 11, 6, 4, 5, 7, 5, 4, 11, 6, 13, 63][k]?).getD 0
set_option maxRecDepth 100000 in
def zarT : List (Option (Nat × Nat × Nat)) := [none, none, none, none, none, none, none, none, none, none, none, none, none, some (0, 4, 0), some (0, 4, 0), some (0, 40, 0), some (0, 40, 0), some (0, 40, 0), some (0, 40, 0), some (0, 602, 0), some (0, 10, 0), some (3, 10, 22), some (0, 10, 0), some (0, 10, 0), some (0, 10, 0), some (0, 10, 0), some (0, 10, 0), some (0, 10, 0), some (0, 10, 0), some (0, 10, 0), some (0, 10, 0), some (0, 10, 0), some (0, 10, 0), some (0, 10, 0), some (0, 21, 0), some (0, 21, 0), some (2, 21, 0), some (2, 21, 0), some (2, 11, 0), some (0, 40, 0), some (0, 40, 0), some (0, 40, 0), some (0, 40, 0), some (0, 40, 0), some (0, 40, 0), some (0, 40, 0), some (0, 40, 0), some (0, 10, 0), some (0, 10, 0), some (0, 10, 0), some (0, 60, 0), some (0, 10, 0), some (0, 10, 0), some (0, 10, 0), some (3, 10, 55), some (0, 10, 0), some (0, 10, 0), some (0, 10, 0), some (0, 10, 0), some (0, 10, 0), some (0, 10, 0), some (0, 10, 0), some (0, 10, 0), some (0, 10, 0), some (0, 10, 0), some (0, 4, 0), some (0, 4, 0), some (3, 4, 68), some (0, 60, 0), some (0, 60, 0), some (0, 60, 0), some (0, 60, 0), some (0, 60, 0), some (0, 40, 0), some (0, 40, 0), some (0, 40, 0), some (0, 1024, 0), some (0, 2, 0), some (0, 10, 0), some (0, 10, 0), some (0, 10, 0), some (0, 10, 0), some (3, 10, 83), some (0, 20, 0), some (0, 20, 0), some (0, 20, 0), some (0, 20, 0), some (0, 20, 0), some (0, 20, 0), some (0, 20, 0), some (0, 20, 0), some (0, 20, 0), some (0, 20, 0), some (0, 10, 0), some (0, 10, 0), some (0, 10, 0), some (0, 10, 0), some (0, 100, 0), some (1, 100, 0), some (0, 11264, 0), some (1, 100, 0), some (0, 10, 0), some (1, 100, 0), some (0, 10, 0), some (0, 4, 0), some (0, 4, 0), some (0, 240, 0), some (0, 10, 0), some (0, 40, 0), some (0, 40, 0), some (0, 40, 0), some (0, 40, 0), some (0, 40, 0), some (0, 40, 0), some (0, 40, 0), some (0, 40, 0), some (0, 10, 0), some (0, 1024, 0), some (0, 1024, 0), some (0, 1024, 0), some (0, 40, 0), some (0, 40, 0), some (0, 40, 0), some (0, 40, 0), some (0, 40, 0), some (0, 40, 0), some (0, 40, 0), some (0, 10, 0), some (0, 10, 0), some (0, 200, 0), some (0, 60, 0), some (0, 4, 0), some (0, 4, 0)]
def zar (p : Nat) : Option (Nat × Nat × Nat) := (zarT[p]?).getD none
def zLc : Nat → Int64
  | 0 => -9223372036854775808
  | 1 => 4000000000000000000
  | 2 => 10
  | 3 => 1000000000000000
  | 4 => 25937424601
  | 5 => -9223372036854775808
  | _ => 0
def zR (k : Nat) : String := ([RX0, RX1, RX2, RX3, RX4, RX5, RX6, RX7, RX8, RX9, RX10, RX11, RX12, RL, RJ6, RJ9, RJ7][k]?).getD ""
def zCl (k : Nat) : vw_C := (vwCl[k]?).getD (RX0, TX0, 6)
def zT (q : Nat) : String × String × String × Bool := (zCl (q / 64)).2.1 (q % 64)
/-- (own class, pool index, field) -/
def zfl : List (Nat × Nat × Nat) := [(0, 9, 0), (0, 15, 1), (0, 19, 2), (0, 22, 3), (0, 25, 4), (0, 28, 5), (0, 61, 196), (0, 66, 195), (0, 69, 194), (1, 11, 64), (1, 15, 65), (1, 18, 66), (1, 21, 67), (1, 24, 68), (1, 28, 69), (1, 31, 70), (1, 34, 71), (1, 37, 72), (2, 13, 128), (2, 19, 129), (2, 22, 130), (2, 28, 131), (2, 31, 132), (2, 34, 133), (2, 37, 134), (2, 40, 135), (2, 43, 136), (2, 47, 137), (2, 50, 138), (2, 53, 452), (2, 56, 645), (2, 57, 448), (2, 60, 641), (2, 67, 451), (3, 11, 192), (3, 15, 193), (3, 18, 194), (3, 21, 195), (3, 24, 196), (3, 27, 197), (4, 11, 256), (4, 15, 257), (4, 18, 258), (4, 21, 259), (5, 9, 320), (5, 17, 321), (5, 20, 322), (5, 24, 323), (5, 27, 324), (5, 36, 197), (5, 41, 194), (5, 44, 195), (5, 47, 192), (5, 50, 193), (6, 9, 384), (6, 15, 385), (6, 22, 387), (6, 25, 388), (6, 28, 389), (6, 31, 390), (6, 55, 643), (6, 60, 644), (7, 11, 448), (7, 15, 449), (7, 18, 450), (7, 25, 451), (7, 28, 452), (8, 11, 512), (8, 15, 513), (8, 20, 514), (8, 23, 515), (9, 11, 576), (9, 15, 577), (9, 18, 578), (9, 21, 579), (9, 26, 580), (9, 31, 581), (9, 34, 582), (9, 37, 583), (9, 40, 584), (9, 43, 585), (9, 46, 586), (9, 55, 642), (10, 11, 640), (10, 15, 641), (10, 18, 642), (10, 29, 645), (11, 12, 704), (11, 21, 705), (11, 28, 706), (11, 35, 707), (11, 42, 708), (11, 49, 709), (11, 56, 710), (11, 63, 711), (11, 70, 712), (11, 77, 713), (11, 84, 714), (11, 88, 715), (11, 92, 716), (11, 112, 451), (11, 116, 449), (11, 124, 640), (11, 127, 641), (11, 130, 642), (11, 133, 643), (11, 136, 193), (11, 139, 197), (11, 146, 256), (11, 147, 259), (11, 148, 64), (11, 149, 68), (11, 150, 576), (11, 151, 579), (11, 152, 448), (11, 161, 192), (11, 178, 132), (11, 198, 450), (11, 202, 194), (11, 205, 195), (11, 208, 196), (11, 239, 452), (11, 250, 515), (11, 253, 645), (11, 270, 71), (11, 273, 72), (11, 287, 578), (11, 294, 585), (11, 297, 577), (11, 304, 580), (11, 318, 644), (11, 327, 384), (11, 329, 385), (11, 330, 386), (11, 339, 387), (11, 342, 388), (11, 348, 389), (11, 351, 390), (11, 364, 1), (11, 365, 0), (11, 372, 512), (11, 378, 514), (12, 7, 771), (12, 13, 772), (12, 16, 773), (12, 19, 775), (12, 22, 776), (12, 25, 777), (12, 29, 778), (12, 32, 779), (12, 35, 780), (12, 38, 781), (12, 41, 782), (12, 44, 783), (12, 47, 784), (12, 50, 785), (12, 53, 786), (12, 56, 788), (12, 59, 789), (12, 62, 790), (12, 65, 791), (12, 68, 792), (12, 71, 794), (12, 74, 795), (12, 77, 796), (12, 80, 799), (12, 83, 801), (12, 86, 802), (12, 89, 803), (12, 92, 805), (12, 95, 806), (12, 98, 807), (12, 101, 808), (12, 104, 814), (12, 107, 815), (12, 110, 816), (12, 114, 817), (12, 118, 818), (12, 121, 822), (12, 124, 823), (12, 127, 825), (12, 130, 829), (12, 133, 830), (12, 136, 768), (12, 146, 770), (12, 149, 774), (12, 159, 787), (12, 173, 793), (12, 176, 804), (12, 179, 813), (12, 258, 798), (12, 261, 797), (12, 267, 800), (12, 283, 809), (12, 286, 810), (12, 299, 811), (12, 302, 812), (12, 317, 819), (12, 323, 820), (12, 326, 821), (12, 342, 824), (12, 345, 826), (12, 348, 827), (12, 351, 828), (12, 379, 769)]
/-- (own class, pool index, method) -/
def zmv : List (Nat × Nat × Nat) := [(0, 37, 1), (0, 51, 2), (0, 54, 3), (0, 58, 4), (1, 40, 8), (1, 50, 12), (1, 53, 10), (1, 57, 13), (1, 61, 16), (1, 65, 9), (1, 68, 17), (1, 72, 19), (1, 75, 20), (2, 63, 64), (2, 79, 25), (2, 83, 22), (2, 89, 26), (2, 92, 27), (2, 96, 28), (2, 100, 29), (2, 113, 31), (2, 116, 32), (2, 119, 33), (2, 129, 35), (4, 31, 48), (5, 53, 51), (5, 67, 54), (5, 75, 55), (6, 34, 57), (6, 51, 56), (7, 32, 63), (8, 32, 68), (9, 58, 76), (9, 62, 77), (9, 65, 78), (9, 75, 81), (9, 79, 75), (11, 100, 83), (11, 104, 62), (11, 107, 61), (11, 111, 82), (11, 120, 139), (11, 155, 63), (11, 158, 140), (11, 164, 21), (11, 168, 24), (11, 171, 23), (11, 175, 30), (11, 181, 138), (11, 184, 36), (11, 187, 37), (11, 191, 40), (11, 195, 39), (11, 201, 38), (11, 211, 141), (11, 214, 41), (11, 218, 44), (11, 221, 43), (11, 222, 45), (11, 226, 46), (11, 229, 42), (11, 232, 47), (11, 235, 65), (11, 240, 69), (11, 243, 136), (11, 246, 49), (11, 254, 50), (11, 258, 52), (11, 261, 7), (11, 262, 11), (11, 265, 14), (11, 267, 12), (11, 276, 15), (11, 279, 18), (11, 282, 74), (11, 285, 73), (11, 286, 72), (11, 290, 75), (11, 300, 79), (11, 307, 80), (11, 311, 70), (11, 314, 71), (11, 335, 56), (11, 345, 59), (11, 354, 60), (11, 358, 137), (11, 361, 0), (11, 368, 66), (11, 375, 68), (11, 384, 144), (11, 387, 145), (11, 390, 143), (11, 393, 147), (11, 396, 146), (11, 399, 34), (11, 403, 64), (11, 405, 6), (11, 409, 142), (12, 152, 153), (12, 156, 152), (12, 162, 158), (12, 166, 159), (12, 182, 164), (12, 185, 165), (12, 188, 168), (12, 191, 170), (12, 195, 169), (12, 198, 167), (12, 201, 171), (12, 204, 148), (12, 207, 178), (12, 210, 179), (12, 216, 173), (12, 220, 176), (12, 223, 177), (12, 230, 181), (12, 234, 180), (12, 240, 185), (12, 244, 184), (12, 247, 189), (12, 250, 190), (12, 253, 192), (12, 264, 195), (12, 273, 200), (12, 280, 204), (12, 289, 205), (12, 292, 206), (12, 296, 207), (12, 305, 208), (12, 308, 209), (12, 311, 212), (12, 314, 213), (12, 320, 217), (12, 329, 218), (12, 332, 219), (12, 335, 220), (12, 339, 226), (12, 357, 230), (12, 361, 231), (12, 368, 236), (12, 371, 237), (12, 375, 149), (12, 382, 244), (13, 13, 84), (13, 17, 154), (13, 18, 85), (13, 22, 155), (13, 23, 86), (13, 26, 156), (13, 27, 87), (13, 31, 157), (13, 32, 88), (13, 36, 160), (13, 37, 89), (13, 40, 162), (13, 41, 90), (13, 44, 163), (13, 45, 91), (13, 49, 166), (13, 50, 92), (13, 53, 172), (13, 54, 93), (13, 57, 182), (13, 58, 94), (13, 62, 183), (13, 63, 95), (13, 66, 186), (13, 67, 96), (13, 70, 187), (13, 71, 97), (13, 74, 188), (13, 75, 98), (13, 78, 191), (13, 79, 99), (13, 82, 193), (13, 83, 100), (13, 86, 194), (13, 87, 101), (13, 90, 196), (13, 91, 102), (13, 94, 197), (13, 95, 103), (13, 98, 198), (13, 99, 104), (13, 103, 201), (13, 104, 105), (13, 107, 203), (13, 108, 106), (13, 111, 210), (13, 112, 107), (13, 115, 211), (13, 116, 108), (13, 119, 214), (13, 120, 109), (13, 123, 215), (13, 124, 110), (13, 127, 216), (13, 128, 111), (13, 131, 221), (13, 132, 112), (13, 135, 222), (13, 136, 113), (13, 139, 223), (13, 140, 114), (13, 143, 224), (13, 144, 115), (13, 148, 225), (13, 149, 116), (13, 152, 227), (13, 153, 117), (13, 156, 228), (13, 157, 118), (13, 161, 232), (13, 162, 119), (13, 166, 233), (13, 167, 120), (13, 170, 234), (13, 171, 121), (13, 174, 238), (13, 175, 122), (13, 178, 239), (13, 179, 123), (13, 182, 240), (13, 183, 124), (13, 186, 241), (13, 187, 125), (13, 190, 242), (13, 191, 126), (13, 194, 243), (13, 195, 127), (13, 198, 245), (13, 199, 128), (13, 202, 246), (13, 203, 129), (13, 206, 247), (13, 207, 130), (13, 210, 248), (13, 211, 131), (13, 214, 249), (13, 215, 132), (13, 218, 250)]
def zms : List (Nat × Nat × Nat) := [(0, 31, 253), (0, 47, 5), (1, 44, 253), (2, 70, 253), (2, 76, 252), (5, 30, 253), (5, 57, 251), (5, 63, 53), (6, 47, 58), (8, 26, 253), (9, 49, 253), (11, 95, 133), (11, 142, 135), (11, 236, 134), (11, 381, 67), (12, 142, 150), (12, 169, 161), (12, 213, 175), (12, 227, 174), (12, 237, 151), (12, 270, 199), (12, 277, 202), (12, 354, 229), (12, 365, 235)]
def zmx : List (Nat × Nat) := [(2, 123), (4, 25), (5, 78), (6, 44), (8, 42), (9, 69)]
def zmn : List (Nat × Nat) := [(5, 70), (6, 38)]
def zmc : List (Nat × Nat) := [(0, 41), (8, 36), (11, 321)]
def zcn : List (Nat × Nat × Int) := [(11, 99, 1000000), (11, 190, 100000), (11, 217, 65535), (11, 303, 100000000), (12, 113, 1000000), (12, 141, 100000), (12, 257, 65535), (12, 338, 100000000), (14, 265, 1431655765), (14, 266, 858993459), (14, 267, 252645135)]
def zlc : List (Nat × Nat × Nat) := [(11, 333, 0), (2, 87, 1), (2, 107, 2), (2, 109, 3), (2, 111, 4), (12, 139, 5)]
