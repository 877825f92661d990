set_option maxRecDepth 100000 in
theorem d240_1687 : decode (xmb 240) 1687 = .ok (.aload_n 2, 1) := by decide +kernel
set_option maxRecDepth 100000 in
theorem d240_1688 : decode (xmb 240) 1688 = .ok (.invokevirtual 115, 3) := by decide +kernel
set_option maxRecDepth 100000 in
theorem d240_1691 : decode (xmb 240) 1691 = .ok (.iload 5, 2) := by decide +kernel
set_option maxRecDepth 100000 in
theorem d240_1693 : decode (xmb 240) 1693 = .ok (.if_icmp .eq 5, 3) := by decide +kernel
set_option maxRecDepth 100000 in
theorem d240_1696 : decode (xmb 240) 1696 = .ok (.iconst 0, 1) := by decide +kernel
set_option maxRecDepth 100000 in
theorem d240_1697 : decode (xmb 240) 1697 = .ok (.ireturn, 1) := by decide +kernel
set_option maxRecDepth 100000 in
theorem d240_1698 : decode (xmb 240) 1698 = .ok (.iload 5, 2) := by decide +kernel
set_option maxRecDepth 100000 in
theorem d240_1700 : decode (xmb 240) 1700 = .ok (.ifCond .ne 15, 3) := by decide +kernel
set_option maxRecDepth 100000 in
theorem d240_1703 : decode (xmb 240) 1703 = .ok (.aload_n 3, 1) := by decide +kernel
set_option maxRecDepth 100000 in
theorem d240_1704 : decode (xmb 240) 1704 = .ok (.iconst 0, 1) := by decide +kernel
set_option maxRecDepth 100000 in
theorem d240_1705 : decode (xmb 240) 1705 = .ok (.laload, 1) := by decide +kernel
set_option maxRecDepth 100000 in
theorem d240_1706 : decode (xmb 240) 1706 = .ok (.iload 6, 2) := by decide +kernel
set_option maxRecDepth 100000 in
theorem d240_1708 : decode (xmb 240) 1708 = .ok (.i2l, 1) := by decide +kernel
set_option maxRecDepth 100000 in
theorem d240_1709 : decode (xmb 240) 1709 = .ok (.lcmp, 1) := by decide +kernel
set_option maxRecDepth 100000 in
theorem d240_1710 : decode (xmb 240) 1710 = .ok (.ifCond .eq 5, 3) := by decide +kernel
set_option maxRecDepth 100000 in
theorem d240_1713 : decode (xmb 240) 1713 = .ok (.iconst 0, 1) := by decide +kernel
set_option maxRecDepth 100000 in
theorem d240_1714 : decode (xmb 240) 1714 = .ok (.ireturn, 1) := by decide +kernel
set_option maxRecDepth 100000 in
theorem d240_1715 : decode (xmb 240) 1715 = .ok (.goto 396, 3) := by decide +kernel
set_option maxRecDepth 100000 in
theorem d240_1718 : decode (xmb 240) 1718 = .ok (.aload_n 1, 1) := by decide +kernel
set_option maxRecDepth 100000 in
theorem d240_1719 : decode (xmb 240) 1719 = .ok (.invokevirtual 195, 3) := by decide +kernel
set_option maxRecDepth 100000 in
theorem d240_1722 : decode (xmb 240) 1722 = .ok (.aload_n 2, 1) := by decide +kernel
set_option maxRecDepth 100000 in
theorem d240_1723 : decode (xmb 240) 1723 = .ok (.invokevirtual 198, 3) := by decide +kernel
set_option maxRecDepth 100000 in
theorem d240_1726 : decode (xmb 240) 1726 = .ok (.if_icmp .eq 385, 3) := by decide +kernel
set_option maxRecDepth 100000 in
theorem d240_1729 : decode (xmb 240) 1729 = .ok (.iconst 0, 1) := by decide +kernel
set_option maxRecDepth 100000 in
theorem d240_1730 : decode (xmb 240) 1730 = .ok (.ireturn, 1) := by decide +kernel
set_option maxRecDepth 100000 in
theorem d240_1731 : decode (xmb 240) 1731 = .ok (.aload_n 1, 1) := by decide +kernel
set_option maxRecDepth 100000 in
theorem d240_1732 : decode (xmb 240) 1732 = .ok (.aload_n 0, 1) := by decide +kernel
set_option maxRecDepth 100000 in
theorem d240_1733 : decode (xmb 240) 1733 = .ok (.iload 4, 2) := by decide +kernel
set_option maxRecDepth 100000 in
theorem d240_1735 : decode (xmb 240) 1735 = .ok (.iconst 1, 1) := by decide +kernel
set_option maxRecDepth 100000 in
theorem d240_1736 : decode (xmb 240) 1736 = .ok (.iadd, 1) := by decide +kernel
set_option maxRecDepth 100000 in
theorem d240_1737 : decode (xmb 240) 1737 = .ok (.iaload, 1) := by decide +kernel
set_option maxRecDepth 100000 in
theorem d240_1738 : decode (xmb 240) 1738 = .ok (.aload_n 0, 1) := by decide +kernel
set_option maxRecDepth 100000 in
theorem d240_1739 : decode (xmb 240) 1739 = .ok (.iload 4, 2) := by decide +kernel
set_option maxRecDepth 100000 in
theorem d240_1741 : decode (xmb 240) 1741 = .ok (.iconst 2, 1) := by decide +kernel
set_option maxRecDepth 100000 in
theorem d240_1742 : decode (xmb 240) 1742 = .ok (.iadd, 1) := by decide +kernel
set_option maxRecDepth 100000 in
theorem d240_1743 : decode (xmb 240) 1743 = .ok (.iaload, 1) := by decide +kernel
set_option maxRecDepth 100000 in
theorem d240_1744 : decode (xmb 240) 1744 = .ok (.aload_n 3, 1) := by decide +kernel
set_option maxRecDepth 100000 in
theorem d240_1745 : decode (xmb 240) 1745 = .ok (.invokestatic 199, 3) := by decide +kernel
set_option maxRecDepth 100000 in
theorem d240_1748 : decode (xmb 240) 1748 = .ok (.istore 5, 2) := by decide +kernel
set_option maxRecDepth 100000 in
theorem d240_1750 : decode (xmb 240) 1750 = .ok (.aload_n 2, 1) := by decide +kernel
set_option maxRecDepth 100000 in
theorem d240_1751 : decode (xmb 240) 1751 = .ok (.aload_n 0, 1) := by decide +kernel
set_option maxRecDepth 100000 in
theorem d240_1752 : decode (xmb 240) 1752 = .ok (.iload 4, 2) := by decide +kernel
set_option maxRecDepth 100000 in
theorem d240_1754 : decode (xmb 240) 1754 = .ok (.iconst 1, 1) := by decide +kernel
set_option maxRecDepth 100000 in
theorem d240_1755 : decode (xmb 240) 1755 = .ok (.iadd, 1) := by decide +kernel
set_option maxRecDepth 100000 in
theorem d240_1756 : decode (xmb 240) 1756 = .ok (.iaload, 1) := by decide +kernel
set_option maxRecDepth 100000 in
theorem d240_1757 : decode (xmb 240) 1757 = .ok (.aload_n 0, 1) := by decide +kernel
set_option maxRecDepth 100000 in
theorem d240_1758 : decode (xmb 240) 1758 = .ok (.iload 4, 2) := by decide +kernel
set_option maxRecDepth 100000 in
theorem d240_1760 : decode (xmb 240) 1760 = .ok (.iconst 2, 1) := by decide +kernel
set_option maxRecDepth 100000 in
theorem d240_1761 : decode (xmb 240) 1761 = .ok (.iadd, 1) := by decide +kernel
set_option maxRecDepth 100000 in
theorem d240_1762 : decode (xmb 240) 1762 = .ok (.iaload, 1) := by decide +kernel
set_option maxRecDepth 100000 in
theorem d240_1763 : decode (xmb 240) 1763 = .ok (.invokevirtual 201, 3) := by decide +kernel
set_option maxRecDepth 100000 in
theorem d240_1766 : decode (xmb 240) 1766 = .ok (.istore 6, 2) := by decide +kernel
set_option maxRecDepth 100000 in
theorem d240_1768 : decode (xmb 240) 1768 = .ok (.aload_n 2, 1) := by decide +kernel
set_option maxRecDepth 100000 in
theorem d240_1769 : decode (xmb 240) 1769 = .ok (.invokevirtual 115, 3) := by decide +kernel
set_option maxRecDepth 100000 in
theorem d240_1772 : decode (xmb 240) 1772 = .ok (.iload 5, 2) := by decide +kernel
set_option maxRecDepth 100000 in
theorem d240_1774 : decode (xmb 240) 1774 = .ok (.if_icmp .eq 5, 3) := by decide +kernel
set_option maxRecDepth 100000 in
theorem d240_1777 : decode (xmb 240) 1777 = .ok (.iconst 0, 1) := by decide +kernel
set_option maxRecDepth 100000 in
theorem d240_1778 : decode (xmb 240) 1778 = .ok (.ireturn, 1) := by decide +kernel
set_option maxRecDepth 100000 in
theorem d240_1779 : decode (xmb 240) 1779 = .ok (.iload 5, 2) := by decide +kernel
set_option maxRecDepth 100000 in
theorem d240_1781 : decode (xmb 240) 1781 = .ok (.ifCond .ne 15, 3) := by decide +kernel
set_option maxRecDepth 100000 in
theorem d240_1784 : decode (xmb 240) 1784 = .ok (.aload_n 3, 1) := by decide +kernel
set_option maxRecDepth 100000 in
theorem d240_1785 : decode (xmb 240) 1785 = .ok (.iconst 0, 1) := by decide +kernel
set_option maxRecDepth 100000 in
theorem d240_1786 : decode (xmb 240) 1786 = .ok (.laload, 1) := by decide +kernel
set_option maxRecDepth 100000 in
theorem d240_1787 : decode (xmb 240) 1787 = .ok (.iload 6, 2) := by decide +kernel
set_option maxRecDepth 100000 in
theorem d240_1789 : decode (xmb 240) 1789 = .ok (.i2l, 1) := by decide +kernel
set_option maxRecDepth 100000 in
theorem d240_1790 : decode (xmb 240) 1790 = .ok (.lcmp, 1) := by decide +kernel
set_option maxRecDepth 100000 in
theorem d240_1791 : decode (xmb 240) 1791 = .ok (.ifCond .eq 5, 3) := by decide +kernel
set_option maxRecDepth 100000 in
theorem d240_1794 : decode (xmb 240) 1794 = .ok (.iconst 0, 1) := by decide +kernel
set_option maxRecDepth 100000 in
theorem d240_1795 : decode (xmb 240) 1795 = .ok (.ireturn, 1) := by decide +kernel
set_option maxRecDepth 100000 in
theorem d240_1796 : decode (xmb 240) 1796 = .ok (.goto 315, 3) := by decide +kernel
set_option maxRecDepth 100000 in
theorem d240_1799 : decode (xmb 240) 1799 = .ok (.aload_n 1, 1) := by decide +kernel
set_option maxRecDepth 100000 in
theorem d240_1800 : decode (xmb 240) 1800 = .ok (.aload_n 0, 1) := by decide +kernel
set_option maxRecDepth 100000 in
theorem d240_1801 : decode (xmb 240) 1801 = .ok (.iload 4, 2) := by decide +kernel
set_option maxRecDepth 100000 in
theorem d240_1803 : decode (xmb 240) 1803 = .ok (.iconst 1, 1) := by decide +kernel
set_option maxRecDepth 100000 in
theorem d240_1804 : decode (xmb 240) 1804 = .ok (.iadd, 1) := by decide +kernel
set_option maxRecDepth 100000 in
theorem d240_1805 : decode (xmb 240) 1805 = .ok (.iaload, 1) := by decide +kernel
set_option maxRecDepth 100000 in
theorem d240_1806 : decode (xmb 240) 1806 = .ok (.aload_n 0, 1) := by decide +kernel
set_option maxRecDepth 100000 in
theorem d240_1807 : decode (xmb 240) 1807 = .ok (.iload 4, 2) := by decide +kernel
set_option maxRecDepth 100000 in
theorem d240_1809 : decode (xmb 240) 1809 = .ok (.iconst 2, 1) := by decide +kernel
set_option maxRecDepth 100000 in
theorem d240_1810 : decode (xmb 240) 1810 = .ok (.iadd, 1) := by decide +kernel
set_option maxRecDepth 100000 in
theorem d240_1811 : decode (xmb 240) 1811 = .ok (.iaload, 1) := by decide +kernel
set_option maxRecDepth 100000 in
theorem d240_1812 : decode (xmb 240) 1812 = .ok (.i2l, 1) := by decide +kernel
set_option maxRecDepth 100000 in
theorem d240_1813 : decode (xmb 240) 1813 = .ok (.bipush 32, 2) := by decide +kernel
set_option maxRecDepth 100000 in
theorem d240_1815 : decode (xmb 240) 1815 = .ok (.lshl, 1) := by decide +kernel
set_option maxRecDepth 100000 in
theorem d240_1816 : decode (xmb 240) 1816 = .ok (.aload_n 0, 1) := by decide +kernel
set_option maxRecDepth 100000 in
theorem d240_1817 : decode (xmb 240) 1817 = .ok (.iload 4, 2) := by decide +kernel
set_option maxRecDepth 100000 in
theorem d240_1819 : decode (xmb 240) 1819 = .ok (.iconst 3, 1) := by decide +kernel
set_option maxRecDepth 100000 in
theorem d240_1820 : decode (xmb 240) 1820 = .ok (.iadd, 1) := by decide +kernel
set_option maxRecDepth 100000 in
theorem d240_1821 : decode (xmb 240) 1821 = .ok (.iaload, 1) := by decide +kernel
set_option maxRecDepth 100000 in
theorem d240_1822 : decode (xmb 240) 1822 = .ok (.i2l, 1) := by decide +kernel
set_option maxRecDepth 100000 in
theorem d240_1823 : decode (xmb 240) 1823 = .ok (.ldc2_w 202, 3) := by decide +kernel
set_option maxRecDepth 100000 in
theorem d240_1826 : decode (xmb 240) 1826 = .ok (.land, 1) := by decide +kernel
set_option maxRecDepth 100000 in
theorem d240_1827 : decode (xmb 240) 1827 = .ok (.lor, 1) := by decide +kernel
set_option maxRecDepth 100000 in
theorem d240_1828 : decode (xmb 240) 1828 = .ok (.aload_n 3, 1) := by decide +kernel
set_option maxRecDepth 100000 in
theorem d240_1829 : decode (xmb 240) 1829 = .ok (.invokestatic 204, 3) := by decide +kernel
set_option maxRecDepth 100000 in
theorem d240_1832 : decode (xmb 240) 1832 = .ok (.istore 5, 2) := by decide +kernel
set_option maxRecDepth 100000 in
theorem d240_1834 : decode (xmb 240) 1834 = .ok (.aload_n 2, 1) := by decide +kernel
set_option maxRecDepth 100000 in
theorem d240_1835 : decode (xmb 240) 1835 = .ok (.aload_n 0, 1) := by decide +kernel
set_option maxRecDepth 100000 in
theorem d240_1836 : decode (xmb 240) 1836 = .ok (.iload 4, 2) := by decide +kernel
set_option maxRecDepth 100000 in
theorem d240_1838 : decode (xmb 240) 1838 = .ok (.iconst 1, 1) := by decide +kernel
set_option maxRecDepth 100000 in
theorem d240_1839 : decode (xmb 240) 1839 = .ok (.iadd, 1) := by decide +kernel
set_option maxRecDepth 100000 in
theorem d240_1840 : decode (xmb 240) 1840 = .ok (.iaload, 1) := by decide +kernel
set_option maxRecDepth 100000 in
theorem d240_1841 : decode (xmb 240) 1841 = .ok (.aload_n 0, 1) := by decide +kernel
set_option maxRecDepth 100000 in
theorem d240_1842 : decode (xmb 240) 1842 = .ok (.iload 4, 2) := by decide +kernel
set_option maxRecDepth 100000 in
theorem d240_1844 : decode (xmb 240) 1844 = .ok (.iconst 2, 1) := by decide +kernel
set_option maxRecDepth 100000 in
theorem d240_1845 : decode (xmb 240) 1845 = .ok (.iadd, 1) := by decide +kernel
set_option maxRecDepth 100000 in
theorem d240_1846 : decode (xmb 240) 1846 = .ok (.iaload, 1) := by decide +kernel
set_option maxRecDepth 100000 in
theorem d240_1847 : decode (xmb 240) 1847 = .ok (.i2l, 1) := by decide +kernel
set_option maxRecDepth 100000 in
theorem d240_1848 : decode (xmb 240) 1848 = .ok (.bipush 32, 2) := by decide +kernel
set_option maxRecDepth 100000 in
theorem d240_1850 : decode (xmb 240) 1850 = .ok (.lshl, 1) := by decide +kernel
set_option maxRecDepth 100000 in
theorem d240_1851 : decode (xmb 240) 1851 = .ok (.aload_n 0, 1) := by decide +kernel
set_option maxRecDepth 100000 in
theorem d240_1852 : decode (xmb 240) 1852 = .ok (.iload 4, 2) := by decide +kernel
set_option maxRecDepth 100000 in
theorem d240_1854 : decode (xmb 240) 1854 = .ok (.iconst 3, 1) := by decide +kernel
set_option maxRecDepth 100000 in
theorem d240_1855 : decode (xmb 240) 1855 = .ok (.iadd, 1) := by decide +kernel
set_option maxRecDepth 100000 in
theorem d240_1856 : decode (xmb 240) 1856 = .ok (.iaload, 1) := by decide +kernel
set_option maxRecDepth 100000 in
theorem d240_1857 : decode (xmb 240) 1857 = .ok (.i2l, 1) := by decide +kernel
set_option maxRecDepth 100000 in
theorem d240_1858 : decode (xmb 240) 1858 = .ok (.ldc2_w 202, 3) := by decide +kernel
set_option maxRecDepth 100000 in
theorem d240_1861 : decode (xmb 240) 1861 = .ok (.land, 1) := by decide +kernel
set_option maxRecDepth 100000 in
theorem d240_1862 : decode (xmb 240) 1862 = .ok (.lor, 1) := by decide +kernel
set_option maxRecDepth 100000 in
theorem d240_1863 : decode (xmb 240) 1863 = .ok (.invokevirtual 207, 3) := by decide +kernel
set_option maxRecDepth 100000 in
theorem d240_1866 : decode (xmb 240) 1866 = .ok (.istore 6, 2) := by decide +kernel
set_option maxRecDepth 100000 in
theorem d240_1868 : decode (xmb 240) 1868 = .ok (.aload_n 2, 1) := by decide +kernel
set_option maxRecDepth 100000 in
theorem d240_1869 : decode (xmb 240) 1869 = .ok (.invokevirtual 115, 3) := by decide +kernel
set_option maxRecDepth 100000 in
theorem d240_1872 : decode (xmb 240) 1872 = .ok (.iload 5, 2) := by decide +kernel
set_option maxRecDepth 100000 in
theorem d240_1874 : decode (xmb 240) 1874 = .ok (.if_icmp .eq 5, 3) := by decide +kernel
set_option maxRecDepth 100000 in
theorem d240_1877 : decode (xmb 240) 1877 = .ok (.iconst 0, 1) := by decide +kernel
set_option maxRecDepth 100000 in
theorem d240_1878 : decode (xmb 240) 1878 = .ok (.ireturn, 1) := by decide +kernel
set_option maxRecDepth 100000 in
theorem d240_1879 : decode (xmb 240) 1879 = .ok (.iload 5, 2) := by decide +kernel
set_option maxRecDepth 100000 in
theorem d240_1881 : decode (xmb 240) 1881 = .ok (.ifCond .ne 15, 3) := by decide +kernel
set_option maxRecDepth 100000 in
theorem d240_1884 : decode (xmb 240) 1884 = .ok (.aload_n 3, 1) := by decide +kernel
set_option maxRecDepth 100000 in
theorem d240_1885 : decode (xmb 240) 1885 = .ok (.iconst 0, 1) := by decide +kernel
set_option maxRecDepth 100000 in
theorem d240_1886 : decode (xmb 240) 1886 = .ok (.laload, 1) := by decide +kernel
set_option maxRecDepth 100000 in
theorem d240_1887 : decode (xmb 240) 1887 = .ok (.iload 6, 2) := by decide +kernel
set_option maxRecDepth 100000 in
theorem d240_1889 : decode (xmb 240) 1889 = .ok (.i2l, 1) := by decide +kernel
set_option maxRecDepth 100000 in
theorem d240_1890 : decode (xmb 240) 1890 = .ok (.lcmp, 1) := by decide +kernel
set_option maxRecDepth 100000 in
theorem d240_1891 : decode (xmb 240) 1891 = .ok (.ifCond .eq 5, 3) := by decide +kernel
set_option maxRecDepth 100000 in
theorem d240_1894 : decode (xmb 240) 1894 = .ok (.iconst 0, 1) := by decide +kernel
set_option maxRecDepth 100000 in
theorem d240_1895 : decode (xmb 240) 1895 = .ok (.ireturn, 1) := by decide +kernel
set_option maxRecDepth 100000 in
theorem d240_1896 : decode (xmb 240) 1896 = .ok (.goto 215, 3) := by decide +kernel
set_option maxRecDepth 100000 in
theorem d240_1899 : decode (xmb 240) 1899 = .ok (.aload_n 1, 1) := by decide +kernel
set_option maxRecDepth 100000 in
theorem d240_1900 : decode (xmb 240) 1900 = .ok (.aload_n 0, 1) := by decide +kernel
set_option maxRecDepth 100000 in
theorem d240_1901 : decode (xmb 240) 1901 = .ok (.iload 4, 2) := by decide +kernel
set_option maxRecDepth 100000 in
theorem d240_1903 : decode (xmb 240) 1903 = .ok (.iconst 1, 1) := by decide +kernel
set_option maxRecDepth 100000 in
theorem d240_1904 : decode (xmb 240) 1904 = .ok (.iadd, 1) := by decide +kernel
set_option maxRecDepth 100000 in
theorem d240_1905 : decode (xmb 240) 1905 = .ok (.iaload, 1) := by decide +kernel
set_option maxRecDepth 100000 in
theorem d240_1906 : decode (xmb 240) 1906 = .ok (.i2l, 1) := by decide +kernel
set_option maxRecDepth 100000 in
theorem d240_1907 : decode (xmb 240) 1907 = .ok (.bipush 32, 2) := by decide +kernel
set_option maxRecDepth 100000 in
theorem d240_1909 : decode (xmb 240) 1909 = .ok (.lshl, 1) := by decide +kernel
set_option maxRecDepth 100000 in
theorem d240_1910 : decode (xmb 240) 1910 = .ok (.aload_n 0, 1) := by decide +kernel
set_option maxRecDepth 100000 in
theorem d240_1911 : decode (xmb 240) 1911 = .ok (.iload 4, 2) := by decide +kernel
set_option maxRecDepth 100000 in
theorem d240_1913 : decode (xmb 240) 1913 = .ok (.iconst 2, 1) := by decide +kernel
set_option maxRecDepth 100000 in
theorem d240_1914 : decode (xmb 240) 1914 = .ok (.iadd, 1) := by decide +kernel
set_option maxRecDepth 100000 in
theorem d240_1915 : decode (xmb 240) 1915 = .ok (.iaload, 1) := by decide +kernel
set_option maxRecDepth 100000 in
theorem d240_1916 : decode (xmb 240) 1916 = .ok (.i2l, 1) := by decide +kernel
set_option maxRecDepth 100000 in
theorem d240_1917 : decode (xmb 240) 1917 = .ok (.ldc2_w 202, 3) := by decide +kernel
set_option maxRecDepth 100000 in
theorem d240_1920 : decode (xmb 240) 1920 = .ok (.land, 1) := by decide +kernel
set_option maxRecDepth 100000 in
theorem d240_1921 : decode (xmb 240) 1921 = .ok (.lor, 1) := by decide +kernel
set_option maxRecDepth 100000 in
theorem d240_1922 : decode (xmb 240) 1922 = .ok (.aload_n 0, 1) := by decide +kernel
set_option maxRecDepth 100000 in
theorem d240_1923 : decode (xmb 240) 1923 = .ok (.iload 4, 2) := by decide +kernel
set_option maxRecDepth 100000 in
theorem d240_1925 : decode (xmb 240) 1925 = .ok (.iconst 3, 1) := by decide +kernel
set_option maxRecDepth 100000 in
theorem d240_1926 : decode (xmb 240) 1926 = .ok (.iadd, 1) := by decide +kernel
set_option maxRecDepth 100000 in
theorem d240_1927 : decode (xmb 240) 1927 = .ok (.iaload, 1) := by decide +kernel
set_option maxRecDepth 100000 in
theorem d240_1928 : decode (xmb 240) 1928 = .ok (.aload_n 3, 1) := by decide +kernel
set_option maxRecDepth 100000 in
theorem d240_1929 : decode (xmb 240) 1929 = .ok (.invokestatic 208, 3) := by decide +kernel
set_option maxRecDepth 100000 in
theorem d240_1932 : decode (xmb 240) 1932 = .ok (.istore 5, 2) := by decide +kernel
set_option maxRecDepth 100000 in
theorem d240_1934 : decode (xmb 240) 1934 = .ok (.aload_n 2, 1) := by decide +kernel
set_option maxRecDepth 100000 in
theorem d240_1935 : decode (xmb 240) 1935 = .ok (.aload_n 0, 1) := by decide +kernel
set_option maxRecDepth 100000 in
theorem d240_1936 : decode (xmb 240) 1936 = .ok (.iload 4, 2) := by decide +kernel
set_option maxRecDepth 100000 in
theorem d240_1938 : decode (xmb 240) 1938 = .ok (.iconst 1, 1) := by decide +kernel
set_option maxRecDepth 100000 in
theorem d240_1939 : decode (xmb 240) 1939 = .ok (.iadd, 1) := by decide +kernel
set_option maxRecDepth 100000 in
theorem d240_1940 : decode (xmb 240) 1940 = .ok (.iaload, 1) := by decide +kernel
set_option maxRecDepth 100000 in
theorem d240_1941 : decode (xmb 240) 1941 = .ok (.i2l, 1) := by decide +kernel
set_option maxRecDepth 100000 in
theorem d240_1942 : decode (xmb 240) 1942 = .ok (.bipush 32, 2) := by decide +kernel
set_option maxRecDepth 100000 in
theorem d240_1944 : decode (xmb 240) 1944 = .ok (.lshl, 1) := by decide +kernel
set_option maxRecDepth 100000 in
theorem d240_1945 : decode (xmb 240) 1945 = .ok (.aload_n 0, 1) := by decide +kernel
set_option maxRecDepth 100000 in
theorem d240_1946 : decode (xmb 240) 1946 = .ok (.iload 4, 2) := by decide +kernel
set_option maxRecDepth 100000 in
theorem d240_1948 : decode (xmb 240) 1948 = .ok (.iconst 2, 1) := by decide +kernel
set_option maxRecDepth 100000 in
theorem d240_1949 : decode (xmb 240) 1949 = .ok (.iadd, 1) := by decide +kernel
set_option maxRecDepth 100000 in
theorem d240_1950 : decode (xmb 240) 1950 = .ok (.iaload, 1) := by decide +kernel
set_option maxRecDepth 100000 in
theorem d240_1951 : decode (xmb 240) 1951 = .ok (.i2l, 1) := by decide +kernel
set_option maxRecDepth 100000 in
theorem d240_1952 : decode (xmb 240) 1952 = .ok (.ldc2_w 202, 3) := by decide +kernel
set_option maxRecDepth 100000 in
theorem d240_1955 : decode (xmb 240) 1955 = .ok (.land, 1) := by decide +kernel
set_option maxRecDepth 100000 in
theorem d240_1956 : decode (xmb 240) 1956 = .ok (.lor, 1) := by decide +kernel
set_option maxRecDepth 100000 in
theorem d240_1957 : decode (xmb 240) 1957 = .ok (.aload_n 0, 1) := by decide +kernel
set_option maxRecDepth 100000 in
theorem d240_1958 : decode (xmb 240) 1958 = .ok (.iload 4, 2) := by decide +kernel
set_option maxRecDepth 100000 in
theorem d240_1960 : decode (xmb 240) 1960 = .ok (.iconst 3, 1) := by decide +kernel
set_option maxRecDepth 100000 in
theorem d240_1961 : decode (xmb 240) 1961 = .ok (.iadd, 1) := by decide +kernel
set_option maxRecDepth 100000 in
theorem d240_1962 : decode (xmb 240) 1962 = .ok (.iaload, 1) := by decide +kernel
set_option maxRecDepth 100000 in
theorem d240_1963 : decode (xmb 240) 1963 = .ok (.invokevirtual 211, 3) := by decide +kernel
set_option maxRecDepth 100000 in
theorem d240_1966 : decode (xmb 240) 1966 = .ok (.istore 6, 2) := by decide +kernel
set_option maxRecDepth 100000 in
theorem d240_1968 : decode (xmb 240) 1968 = .ok (.aload_n 2, 1) := by decide +kernel
set_option maxRecDepth 100000 in
theorem d240_1969 : decode (xmb 240) 1969 = .ok (.invokevirtual 115, 3) := by decide +kernel
set_option maxRecDepth 100000 in
theorem d240_1972 : decode (xmb 240) 1972 = .ok (.iload 5, 2) := by decide +kernel
set_option maxRecDepth 100000 in
theorem d240_1974 : decode (xmb 240) 1974 = .ok (.if_icmp .eq 5, 3) := by decide +kernel
set_option maxRecDepth 100000 in
theorem d240_1977 : decode (xmb 240) 1977 = .ok (.iconst 0, 1) := by decide +kernel
set_option maxRecDepth 100000 in
theorem d240_1978 : decode (xmb 240) 1978 = .ok (.ireturn, 1) := by decide +kernel
set_option maxRecDepth 100000 in
theorem d240_1979 : decode (xmb 240) 1979 = .ok (.iload 5, 2) := by decide +kernel
set_option maxRecDepth 100000 in
theorem d240_1981 : decode (xmb 240) 1981 = .ok (.ifCond .ne 15, 3) := by decide +kernel
set_option maxRecDepth 100000 in
theorem d240_1984 : decode (xmb 240) 1984 = .ok (.aload_n 3, 1) := by decide +kernel
set_option maxRecDepth 100000 in
theorem d240_1985 : decode (xmb 240) 1985 = .ok (.iconst 0, 1) := by decide +kernel
set_option maxRecDepth 100000 in
theorem d240_1986 : decode (xmb 240) 1986 = .ok (.laload, 1) := by decide +kernel
set_option maxRecDepth 100000 in
theorem d240_1987 : decode (xmb 240) 1987 = .ok (.iload 6, 2) := by decide +kernel
set_option maxRecDepth 100000 in
theorem d240_1989 : decode (xmb 240) 1989 = .ok (.i2l, 1) := by decide +kernel
set_option maxRecDepth 100000 in
theorem d240_1990 : decode (xmb 240) 1990 = .ok (.lcmp, 1) := by decide +kernel
set_option maxRecDepth 100000 in
theorem d240_1991 : decode (xmb 240) 1991 = .ok (.ifCond .eq 5, 3) := by decide +kernel
set_option maxRecDepth 100000 in
theorem d240_1994 : decode (xmb 240) 1994 = .ok (.iconst 0, 1) := by decide +kernel
set_option maxRecDepth 100000 in
theorem d240_1995 : decode (xmb 240) 1995 = .ok (.ireturn, 1) := by decide +kernel
set_option maxRecDepth 100000 in
theorem d240_1996 : decode (xmb 240) 1996 = .ok (.goto 115, 3) := by decide +kernel
set_option maxRecDepth 100000 in
theorem d240_1999 : decode (xmb 240) 1999 = .ok (.aload_n 1, 1) := by decide +kernel
set_option maxRecDepth 100000 in
theorem d240_2000 : decode (xmb 240) 2000 = .ok (.aload_n 0, 1) := by decide +kernel
set_option maxRecDepth 100000 in
theorem d240_2001 : decode (xmb 240) 2001 = .ok (.iload 4, 2) := by decide +kernel
set_option maxRecDepth 100000 in
theorem d240_2003 : decode (xmb 240) 2003 = .ok (.iconst 1, 1) := by decide +kernel
set_option maxRecDepth 100000 in
theorem d240_2004 : decode (xmb 240) 2004 = .ok (.iadd, 1) := by decide +kernel
set_option maxRecDepth 100000 in
theorem d240_2005 : decode (xmb 240) 2005 = .ok (.iaload, 1) := by decide +kernel
set_option maxRecDepth 100000 in
theorem d240_2006 : decode (xmb 240) 2006 = .ok (.aload_n 3, 1) := by decide +kernel
set_option maxRecDepth 100000 in
theorem d240_2007 : decode (xmb 240) 2007 = .ok (.invokestatic 212, 3) := by decide +kernel
set_option maxRecDepth 100000 in
theorem d240_2010 : decode (xmb 240) 2010 = .ok (.istore 5, 2) := by decide +kernel
set_option maxRecDepth 100000 in
theorem d240_2012 : decode (xmb 240) 2012 = .ok (.aload_n 2, 1) := by decide +kernel
set_option maxRecDepth 100000 in
theorem d240_2013 : decode (xmb 240) 2013 = .ok (.aload_n 0, 1) := by decide +kernel
set_option maxRecDepth 100000 in
theorem d240_2014 : decode (xmb 240) 2014 = .ok (.iload 4, 2) := by decide +kernel
set_option maxRecDepth 100000 in
theorem d240_2016 : decode (xmb 240) 2016 = .ok (.iconst 1, 1) := by decide +kernel
set_option maxRecDepth 100000 in
theorem d240_2017 : decode (xmb 240) 2017 = .ok (.iadd, 1) := by decide +kernel
set_option maxRecDepth 100000 in
theorem d240_2018 : decode (xmb 240) 2018 = .ok (.iaload, 1) := by decide +kernel
set_option maxRecDepth 100000 in
theorem d240_2019 : decode (xmb 240) 2019 = .ok (.invokevirtual 214, 3) := by decide +kernel
set_option maxRecDepth 100000 in
theorem d240_2022 : decode (xmb 240) 2022 = .ok (.istore 6, 2) := by decide +kernel
set_option maxRecDepth 100000 in
theorem d240_2024 : decode (xmb 240) 2024 = .ok (.aload_n 2, 1) := by decide +kernel
set_option maxRecDepth 100000 in
theorem d240_2025 : decode (xmb 240) 2025 = .ok (.invokevirtual 115, 3) := by decide +kernel
set_option maxRecDepth 100000 in
theorem d240_2028 : decode (xmb 240) 2028 = .ok (.iload 5, 2) := by decide +kernel
set_option maxRecDepth 100000 in
theorem d240_2030 : decode (xmb 240) 2030 = .ok (.if_icmp .eq 5, 3) := by decide +kernel
set_option maxRecDepth 100000 in
theorem d240_2033 : decode (xmb 240) 2033 = .ok (.iconst 0, 1) := by decide +kernel
set_option maxRecDepth 100000 in
theorem d240_2034 : decode (xmb 240) 2034 = .ok (.ireturn, 1) := by decide +kernel
set_option maxRecDepth 100000 in
theorem d240_2035 : decode (xmb 240) 2035 = .ok (.iload 5, 2) := by decide +kernel
set_option maxRecDepth 100000 in
theorem d240_2037 : decode (xmb 240) 2037 = .ok (.ifCond .ne 15, 3) := by decide +kernel
set_option maxRecDepth 100000 in
theorem d240_2040 : decode (xmb 240) 2040 = .ok (.aload_n 3, 1) := by decide +kernel
set_option maxRecDepth 100000 in
theorem d240_2041 : decode (xmb 240) 2041 = .ok (.iconst 0, 1) := by decide +kernel
set_option maxRecDepth 100000 in
theorem d240_2042 : decode (xmb 240) 2042 = .ok (.laload, 1) := by decide +kernel
set_option maxRecDepth 100000 in
theorem d240_2043 : decode (xmb 240) 2043 = .ok (.iload 6, 2) := by decide +kernel
set_option maxRecDepth 100000 in
theorem d240_2045 : decode (xmb 240) 2045 = .ok (.i2l, 1) := by decide +kernel
set_option maxRecDepth 100000 in
theorem d240_2046 : decode (xmb 240) 2046 = .ok (.lcmp, 1) := by decide +kernel
set_option maxRecDepth 100000 in
theorem d240_2047 : decode (xmb 240) 2047 = .ok (.ifCond .eq 5, 3) := by decide +kernel
set_option maxRecDepth 100000 in
theorem d240_2050 : decode (xmb 240) 2050 = .ok (.iconst 0, 1) := by decide +kernel
set_option maxRecDepth 100000 in
theorem d240_2051 : decode (xmb 240) 2051 = .ok (.ireturn, 1) := by decide +kernel
set_option maxRecDepth 100000 in
theorem d240_2052 : decode (xmb 240) 2052 = .ok (.goto 59, 3) := by decide +kernel
set_option maxRecDepth 100000 in
theorem d240_2055 : decode (xmb 240) 2055 = .ok (.aload_n 1, 1) := by decide +kernel
set_option maxRecDepth 100000 in
theorem d240_2056 : decode (xmb 240) 2056 = .ok (.aload_n 0, 1) := by decide +kernel
set_option maxRecDepth 100000 in
theorem d240_2057 : decode (xmb 240) 2057 = .ok (.iload 4, 2) := by decide +kernel
set_option maxRecDepth 100000 in
theorem d240_2059 : decode (xmb 240) 2059 = .ok (.iconst 1, 1) := by decide +kernel
set_option maxRecDepth 100000 in
theorem d240_2060 : decode (xmb 240) 2060 = .ok (.iadd, 1) := by decide +kernel
set_option maxRecDepth 100000 in
theorem d240_2061 : decode (xmb 240) 2061 = .ok (.iaload, 1) := by decide +kernel
set_option maxRecDepth 100000 in
theorem d240_2062 : decode (xmb 240) 2062 = .ok (.aload_n 3, 1) := by decide +kernel
